-- THE LAW'S OWN STATIC METHODS
def lo (v : Int32) (k : Nat) : Nat := (v &&& 2147483647).toNatClampNeg % k
theorem lo_lt (v : Int32) {k : Nat} (h : 0 < k) : lo v k < k := Nat.mod_lt _ h
theorem nI_clampI9 {x : Int32} (h : 0 ≤ x.toInt) : nI x.toNatClampNeg = x := by
  have h1 : x.toNatClampNeg = x.toInt.toNat := rfl
  apply Int32.toInt_inj.mp
  have := Int32.toInt_lt x
  rw [nI_toInt (by rw [h1]; omega), h1]
  omega
theorem and_pos (v : Int32) : 0 ≤ (v &&& 2147483647).toInt := by
  have h1 : (v &&& 2147483647).toBitVec.toNat ≤ 2147483647 := by
    rw [Int32.toBitVec_and, BitVec.toNat_and]
    exact Nat.and_le_right
  show 0 ≤ (v &&& 2147483647).toBitVec.toInt
  rw [BitVec.toInt_eq_toNat_of_lt (by omega)]
  omega
theorem nI_mod {a k : Nat} (ha : a < 2 ^ 31) (h0 : 0 < k) (hk : k < 2 ^ 31) : nI a - nI a / nI k * nI k = nI (a % k) := by
  have e1 : (nI a).toInt = (a : Int) := nI_toInt ha
  have ek : (nI k).toInt = (k : Int) := nI_toInt hk
  have e2 : (nI (a % k)).toInt = ((a % k : Nat) : Int) := nI_toInt (by have := Nat.mod_le a k; omega)
  have hm1 : nI k ≠ -1 := fun h => by
    have h2 := congrArg Int32.toInt h
    rw [ek, show (-1 : Int32).toInt = -1 by decide] at h2
    omega
  have e3 : (nI a / nI k).toInt = ((a / k : Nat) : Int) := by
    rw [Int32.toInt_div_of_ne_right (nI a) (nI k) hm1, e1, ek, Int.tdiv_eq_ediv_of_nonneg (by omega)]
    exact (Int.natCast_ediv a k).symm
  have hle : a / k * k ≤ a := Nat.div_mul_le_self a k
  have hdm : a / k * k + a % k = a := by rw [Nat.mul_comm]; exact Nat.div_add_mod a k
  have hprod : ((a / k : Nat) : Int) * (k : Int) = ((a / k * k : Nat) : Int) := (Int.natCast_mul _ _).symm
  have e4 : (nI a / nI k * nI k).toInt = ((a / k * k : Nat) : Int) := by
    rw [i32_mul (by rw [e3, ek, hprod]; omega) (by rw [e3, ek, hprod]; omega), e3, ek, hprod]
  apply Int32.toInt_inj.mp
  rw [i32_sub (by rw [e1, e4]; omega) (by rw [e1, e4]; omega), e1, e4, e2]
  omega
theorem lo_eq (v : Int32) {k : Nat} (h0 : 0 < k) (hk : k < 2 ^ 31) : (v &&& 2147483647) - (v &&& 2147483647) / nI k * nI k = nI (lo v k) := by
  have h := nI_clampI9 (and_pos v)
  have hl : (v &&& 2147483647).toNatClampNeg < 2 ^ 31 := by
    have := Int32.toInt_lt (v &&& 2147483647)
    have h1 : (v &&& 2147483647).toNatClampNeg = (v &&& 2147483647).toInt.toNat := rfl
    omega
  have h2 := nI_mod hl h0 hk
  rw [h] at h2
  exact h2
set_option maxHeartbeats 4000000 in
set_option maxRecDepth 100000 in
theorem c_L_low (l : Launch) (Hp : Heap) (v n : Int32) (k : Nat) (hn : n = nI k) (h0 : 0 < k) (hk : k < 2 ^ 31) : Met l yL_low wsL_low ({ frames := 2, cells := 0, slots := 0, locals := 40 }) (va_Pc [.int v, .int n] (fun U => U.heap = Hp)) (va_Qi (fun (r : Int32) (_ : Unit) => r = nI (lo v k)) (fun _ t => t.heap = Hp) (fun _ => False)) 0 0 (fun _ => False) := by
  subst hn
  refine Met.ofW (cc := cL_low) (maxL := 2) (ret := some .int) (by decide) rfl ?_
  intro p e s m args below meth c s₁ B hml hv
  obtain ⟨rfl, hH⟩ := hv
  subst hH
  have hx := B.exec
  have hb := B.bytes
  have hr := B.returns
  have hts := atoms_spec (ws := wsL_low) B.pre
  have hown : s.vm.findClass RL = some m.cls := findClass_of_methodNamed B.named
  have hlocks := B.notSynchronized
  have hS : va_S (fun _ => False) s.heap s.heap [] := va_S.rf
  have hA : ∀ q : Nat, s.heap.size ≤ q → aNew s.heap q := fun q h => h
  have hl := lv_entry ([.int v, .int (nI k)]) (n := 2) (Nat.le_of_ble_eq_true rfl)
  rw [lg_entry_eq]
  generalize (lg_sl ([.int v, .int (nI k)]) ++ List.replicate (2 - (lg_sl ([.int v, .int (nI k)])).length) Slot.unset).toArray = ls at hl ⊢
  have hl : lv_has ls 2 [(0, .int v), (1, .int (nI k))] := hl
  refine lv_iload_n hx hb dL_low_0 rfl (lv_at hl 0 rfl) ?_
  refine lv_ldc (v := 2147483647) hx hb hown (hts (.constant RL 9 (2147483647)) (by decide +kernel)) dL_low_1 ?_
  refine lv_iand hx hb dL_low_3 ?_
  refine lv_iload_n hx hb dL_low_4 rfl (lv_at hl 1 rfl) ?_
  refine lv_irem hx hb dL_low_5 (nI_ne0 h0 hk) ?_
  refine lv_topi (fun v9 e9 => ?_)
  have e9 := e9.trans (lo_eq v h0 hk)
  subst e9
  exact W.iret hx hb hr (fun t ht hW => ⟨⟨_, (), rfl, rfl, ht⟩, (va_S.rf (A := fun _ => False)).F ht⟩) (fun q hq => absurd hq List.not_mem_nil) dL_low_6
set_option maxHeartbeats 4000000 in
set_option maxRecDepth 100000 in
theorem c_L_cell (l : Launch) (Hp : Heap) (b Ln : Nat) (xs : Nat → Int32) (k : Nat) (hk : k < 1000) (hLn : Ln ≤ 260) : Met l yL_cell wsL_cell ({ frames := 2, cells := 0, slots := 0, locals := 40 }) (va_Pc [.ref b, .int (nI k)] (fun U => U.heap = Hp ∧ va_X b Ln xs U U.heap ∧ b < U.heap.size)) (va_Qi (fun (_ : Int32) (_ : Unit) => True) (fun _ t => t.heap = Hp) (fun _ => False)) 0 0 (fun _ => False) := by
  refine Met.ofW (cc := cL_cell) (maxL := 2) (ret := some .int) (by decide) rfl ?_
  intro p e s m args below meth c s₁ B hml hv
  obtain ⟨rfl, hH, hX, hbl⟩ := hv
  subst hH
  have hx := B.exec
  have hb := B.bytes
  have hr := B.returns
  have hts := atoms_spec (ws := wsL_cell) B.pre
  have hown : s.vm.findClass RL = some m.cls := findClass_of_methodNamed B.named
  have hlocks := B.notSynchronized
  have hbA : ¬ aNew s.heap b := Nat.not_le.mpr hbl
  have hS : va_S (aNew s.heap) s.heap s.heap [] := va_S.rf
  have hA : ∀ q : Nat, s.heap.size ≤ q → aNew s.heap q := fun q h => h
  have hl := lv_entry ([.ref b, .int (nI k)]) (n := 2) (Nat.le_of_ble_eq_true rfl)
  rw [lg_entry_eq]
  generalize (lg_sl ([.ref b, .int (nI k)]) ++ List.replicate (2 - (lg_sl ([.ref b, .int (nI k)])).length) Slot.unset).toArray = ls at hl ⊢
  have hl : lv_has ls 2 [(0, .ref b), (1, .int (nI k))] := hl
  refine lv_iload_n hx hb dL_cell_0 rfl (lv_at hl 1 rfl) ?_
  refine lv_aload_n hx hb dL_cell_1 rfl (lv_at hl 0 rfl) ?_
  refine va_slen hx hb hX hbl hbA hS dL_cell_2 ?_
  refine lv_icmp_ge (tgt := 12) hx hb dL_cell_3 (by decide) (fun cq1 => ?_) (fun cq1 => ?_)
  · refine lv_ldc (v := 1000308317) hx hb hown (hts (.constant RL 7 (1000308317)) (by decide +kernel)) dL_cell_12 ?_
    refine lv_iload_n hx hb dL_cell_14 rfl (lv_at hl 1 rfl) ?_
    refine lv_iconst (v := 1) hx hb dL_cell_15 (by decide) ?_
    refine lv_iadd hx hb dL_cell_16 ?_
    refine lv_imul hx hb dL_cell_17 ?_
    refine lv_ldc (v := 751363491) hx hb hown (hts (.constant RL 8 (751363491)) (by decide +kernel)) dL_cell_18 ?_
    refine lv_iadd hx hb dL_cell_20 ?_
    exact W.iret hx hb hr (fun t ht hW => ⟨⟨_, (), rfl, trivial, ht⟩, (va_S.rf (A := fun _ => False)).F ht⟩) (fun q hq => absurd hq List.not_mem_nil) dL_cell_21
  · refine lv_aload_n hx hb dL_cell_6 rfl (lv_at hl 0 rfl) ?_
    refine lv_iload_n hx hb dL_cell_7 rfl (lv_at hl 1 rfl) ?_
    refine va_sld hx hb hX hbl hbA hS (vp_in_nI (Nat.not_le.mp (fun h9 => cq1 (nI_le h9 (by omega)))) (by omega)) dL_cell_8 ?_
    refine lv_goto (tgt := 21) hx hb dL_cell_9 (by decide) ?_
    exact W.iret hx hb hr (fun t ht hW => ⟨⟨_, (), rfl, trivial, ht⟩, (va_S.rf (A := fun _ => False)).F ht⟩) (fun q hq => absurd hq List.not_mem_nil) dL_cell_21
theorem s_l9 : ∀ n, n < 32 → ((nI n &&& 31).toBitVec.smod 32).toNat = n := by decide +kernel
theorem shl_nI (a : Nat) {k : Nat} (hk : k < 32) : nI a <<< (nI k &&& 31) = nI (a * 2 ^ k) := by
  apply Int32.toBitVec_inj.1
  rw [Int32.toBitVec_shiftLeft]
  show (BitVec.ofNat 32 a) <<< ((nI k &&& 31).toBitVec.smod 32).toNat = BitVec.ofNat 32 (a * 2 ^ k)
  rw [s_l9 k hk]
  apply BitVec.eq_of_toNat_eq
  rw [BitVec.toNat_shiftLeft, BitVec.toNat_ofNat, BitVec.toNat_ofNat, Nat.shiftLeft_eq, Nat.mod_mul_mod]
theorem shr_nI {n k : Nat} (hn : n < 2 ^ 31) (hk : k < 32) : nI n >>> (nI k &&& 31) = nI (n / 2 ^ k) := by
  apply Int32.toInt_inj.mp
  have hd : n / 2 ^ k < 2 ^ 31 := Nat.lt_of_le_of_lt (Nat.div_le_self _ _) hn
  rw [nI_toInt hd]
  show (nI n >>> (nI k &&& 31)).toBitVec.toInt = _
  rw [Int32.toBitVec_shiftRight]
  show ((nI n).toBitVec.sshiftRight ((nI k &&& 31).toBitVec.smod 32).toNat).toInt = _
  rw [s_l9 k hk, BitVec.toInt_sshiftRight]
  show (nI n).toInt >>> k = _
  rw [nI_toInt hn, Int.shiftRight_eq_div_pow]
  exact (Int.natCast_ediv n (2 ^ k)).symm
theorem one_shl : ∀ i, i < 24 → (1 : Int32) <<< (nI i &&& 31) = nI (2 ^ i) := by decide +kernel
theorem nI_subN {a b : Nat} (h : b ≤ a) : nI a - nI b = nI (a - b) := by
  obtain ⟨d, rfl⟩ : ∃ d, a = b + d := ⟨a - b, by omega⟩
  rw [← nI_add, show b + d - b = d by omega, Int32.add_comm, Int32.add_sub_cancel]
theorem min_add (X : Nat) : (-2147483648 : Int32) + nI X = nI (2 ^ 31 + X) := by
  have e : (-2147483648 : Int32) = nI (2 ^ 31) := by decide
  rw [e, nI_add]
/-- the bits of n halves, without the sign -/
def hbN (n : Nat) : Nat := (126 + n.log2) * 2 ^ 23 + (n - 2 ^ n.log2) * 2 ^ (23 - n.log2)
theorem log_facts {n : Nat} (h0 : 0 < n) (h1 : n < 2 ^ 24) : 2 ^ n.log2 ≤ n ∧ n < 2 ^ (n.log2 + 1) ∧ n.log2 < 24 := by
  obtain ⟨b1, b2⟩ := log2_pow_le h0
  refine ⟨b1, b2, ?_⟩
  rcases Nat.lt_or_ge n.log2 24 with q | q
  · exact q
  · have : 2 ^ 24 ≤ 2 ^ n.log2 := Nat.pow_le_pow_right (by decide) q
    omega
set_option maxHeartbeats 4000000 in
set_option maxRecDepth 100000 in
theorem c_bits_pos (l : Launch) (Hp : Heap) (v : Int32) (n : Nat) (h0 : 0 < n) (h1 : n < 2 ^ 24) (hv0 : ¬ v = 0) (hpos : 0 ≤ v) (hvn : v = nI n) : Met l yL_bits wsL_bits ({ frames := 2, cells := 0, slots := 0, locals := 40 }) (va_Pc [.int v] (fun U => U.heap = Hp)) (va_Qi (fun (r : Int32) (_ : Unit) => r = nI (hbN n)) (fun _ t => t.heap = Hp) (fun _ => False)) 0 0 (fun _ => False) := by
  obtain ⟨lg, hlg⟩ : ∃ z, z = n.log2 := ⟨_, rfl⟩
  have hlf := log_facts h0 h1
  rw [← hlg] at hlf
  obtain ⟨f1, f2, f3⟩ := hlf
  have hZ : hbN n = (126 + lg) * 2 ^ 23 + (n - 2 ^ lg) * 2 ^ (23 - lg) := by unfold hbN; rw [← hlg]
  refine Met.ofW (cc := cL_bits) (maxL := 4) (ret := some .int) (by decide) rfl ?_
  intro p e s m args below meth c s₁ B hml hv
  obtain ⟨rfl, hH⟩ := hv
  subst hH
  have hx := B.exec
  have hb := B.bytes
  have hr := B.returns
  have hts := atoms_spec (ws := wsL_bits) B.pre
  have hown : s.vm.findClass RL = some m.cls := findClass_of_methodNamed B.named
  have hlocks := B.notSynchronized
  have hS : va_S (fun _ => False) s.heap s.heap [] := va_S.rf
  have hA : ∀ q : Nat, s.heap.size ≤ q → aNew s.heap q := fun q h => h
  have hl := lv_entry ([.int v]) (n := 4) (Nat.le_of_ble_eq_true rfl)
  rw [lg_entry_eq]
  generalize (lg_sl ([.int v]) ++ List.replicate (4 - (lg_sl ([.int v])).length) Slot.unset).toArray = ls at hl ⊢
  have hl : lv_has ls 4 [(0, .int v)] := hl
  have hf0 : ∀ q ∈ ([] : List Loc), (fun _ : Addr => False) q.base := fun q hq => absurd hq List.not_mem_nil
  have loop : ∀ (r i : Nat) (ls : Array Slot), i + r = lg → lv_has ls 4 [(0, .int v), (1, .int (nI n)), (2, .int (nI i))] → W p l e (headSpec wsL_bits ({ frames := 2, cells := 0, slots := 0, locals := 40 })).room s m ([.int v]).toArray below meth c s.heap [] 0 0 (MQ below (va_Qi (fun (r : Int32) (_ : Unit) => r = nI (hbN n)) (fun _ t => t.heap = s.heap) (fun _ => False)) ([.int v]).toArray s 0 0 (fun _ => False)) (F0 m 19 ls []) := by
    intro r
    induction r with
    | zero =>
      intro i ls hi hl
      have hi : lg = i := by omega
      subst hi
      refine lv_iload_n hx hb dL_bits_19 rfl (lv_at hl 1 rfl) ?_
      refine lv_iload_n hx hb dL_bits_20 rfl (lv_at hl 2 rfl) ?_
      refine lv_iconst (v := 1) hx hb dL_bits_21 (by decide) ?_
      refine lv_iadd hx hb dL_bits_22 ?_
      refine lv_topi (fun v9 e9 => ?_)
      have e9 := e9.trans (nI_add lg 1)
      subst e9
      refine lv_ishr hx hb dL_bits_23 ?_
      refine lv_topi (fun v9 e9 => ?_)
      have e9 := e9.trans (shr_nI (by omega) (by omega))
      subst e9
      refine lv_if_le (tgt := 33) hx hb dL_bits_24 (by decide) (fun _ => ?_) (fun h9 => absurd (by rw [Nat.div_eq_of_lt f2]; decide) h9)
      refine lv_iload_n hx hb dL_bits_33 rfl (lv_at hl 2 rfl) ?_
      refine lv_bipush (v := 24) hx hb dL_bits_34 (by decide) ?_
      refine lv_icmp_ge (tgt := 52) hx hb dL_bits_36 (by decide) (fun h9 => absurd h9 (nI_ge (a := lg) (b := 24) f3 (by omega))) (fun _ => ?_)
      refine lv_iload_n hx hb dL_bits_39 rfl (lv_at hl 1 rfl) ?_
      refine lv_iconst (v := 1) hx hb dL_bits_40 (by decide) ?_
      refine lv_iload_n hx hb dL_bits_41 rfl (lv_at hl 2 rfl) ?_
      refine lv_ishl hx hb dL_bits_42 ?_
      refine lv_topi (fun v9 e9 => ?_)
      have e9 := e9.trans (one_shl lg f3)
      subst e9
      refine lv_isub hx hb dL_bits_43 ?_
      refine lv_topi (fun v9 e9 => ?_)
      have e9 := e9.trans (nI_subN f1)
      subst e9
      refine lv_bipush (v := 23) hx hb dL_bits_44 (by decide) ?_
      refine lv_iload_n hx hb dL_bits_46 rfl (lv_at hl 2 rfl) ?_
      refine lv_isub hx hb dL_bits_47 ?_
      refine lv_topi (fun v9 e9 => ?_)
      have e9 := e9.trans (nI_subN (a := 23) (b := lg) (by omega))
      subst e9
      refine lv_ishl hx hb dL_bits_48 ?_
      refine lv_topi (fun v9 e9 => ?_)
      have e9 := e9.trans (shl_nI _ (by omega))
      subst e9
      refine lv_goto (tgt := 53) hx hb dL_bits_49 (by decide) ?_
      refine lv_istore_n (lv' := [(3, .int (nI ((n - 2 ^ lg) * 2 ^ (23 - lg)))), (0, .int v), (1, .int (nI n)), (2, .int (nI lg))]) hx hb dL_bits_53 rfl hl (by decide) rfl (fun ls hl => ?_)
      refine lv_iload_n hx hb dL_bits_54 rfl (lv_at hl 1 rfl) ?_
      refine lv_if_ge (tgt := 63) hx hb dL_bits_55 (by decide) (fun _ => ?_) (fun h9 => absurd hpos h9)
      refine lv_iconst (v := 0) hx hb dL_bits_63 (by decide) ?_
      refine lv_bipush (v := 126) hx hb dL_bits_64 (by decide) ?_
      refine lv_iload_n hx hb dL_bits_66 rfl (lv_at hl 3 rfl) ?_
      refine lv_iadd hx hb dL_bits_67 ?_
      refine lv_topi (fun v9 e9 => ?_)
      have e9 := e9.trans (nI_add 126 lg)
      subst e9
      refine lv_bipush (v := 23) hx hb dL_bits_68 (by decide) ?_
      refine lv_ishl hx hb dL_bits_70 ?_
      refine lv_topi (fun v9 e9 => ?_)
      have e9 := e9.trans (sh23 (126 + lg) (by omega))
      subst e9
      refine lv_iadd hx hb dL_bits_71 ?_
      refine lv_topi (fun v9 e9 => ?_)
      have e9 := e9.trans (Int32.zero_add _)
      subst e9
      refine lv_iload_n hx hb dL_bits_72 rfl (lv_at hl 0 rfl) ?_
      refine lv_iadd hx hb dL_bits_73 ?_
      refine lv_topi (fun v9 e9 => ?_)
      have e9 := e9.trans (nI_add ((126 + lg) * 2 ^ 23) ((n - 2 ^ lg) * 2 ^ (23 - lg)))
      subst e9
      exact W.iret hx hb hr (fun t ht hW => ⟨⟨_, (), rfl, (by rw [hZ]), ht⟩, (va_S.rf (A := fun _ => False)).F ht⟩) hf0 dL_bits_74
    | succ r ih =>
      intro i ls hi hl
      have hp : 2 ^ (i + 1) ≤ n := Nat.le_trans (Nat.pow_le_pow_right (by decide) (by omega)) f1
      have hq : 0 < n / 2 ^ (i + 1) := Nat.div_pos hp (Nat.two_pow_pos _)
      refine lv_iload_n hx hb dL_bits_19 rfl (lv_at hl 1 rfl) ?_
      refine lv_iload_n hx hb dL_bits_20 rfl (lv_at hl 2 rfl) ?_
      refine lv_iconst (v := 1) hx hb dL_bits_21 (by decide) ?_
      refine lv_iadd hx hb dL_bits_22 ?_
      refine lv_topi (fun v9 e9 => ?_)
      have e9 := e9.trans (nI_add i 1)
      subst e9
      refine lv_ishr hx hb dL_bits_23 ?_
      refine lv_topi (fun v9 e9 => ?_)
      have e9 := e9.trans (shr_nI (by omega) (by omega))
      subst e9
      refine lv_if_le (tgt := 33) hx hb dL_bits_24 (by decide) (fun h9 => absurd h9 (nI_nle hq (Nat.lt_of_le_of_lt (Nat.div_le_self _ _) (by omega)))) (fun _ => ?_)
      refine lv_iinc (v := (nI (i + 1))) (lv' := [(2, .int (nI (i + 1))), (0, .int v), (1, .int (nI n))]) hx hb dL_bits_27 hl (k := 2) rfl (nI_1 i) (by decide) rfl (fun ls hl => ?_)
      refine lv_goto (tgt := 19) hx hb dL_bits_30 (by decide) ?_
      exact ih (i + 1) ls (by omega) (lv_sub hl [1, 2, 0] rfl)
  refine lv_iload_n hx hb dL_bits_0 rfl (lv_at hl 0 rfl) ?_
  refine lv_if_ne (tgt := 6) hx hb dL_bits_1 (by decide) (fun _ => ?_) (fun h9 => absurd h9 hv0)
  refine lv_iload_n hx hb dL_bits_6 rfl (lv_at hl 0 rfl) ?_
  refine lv_if_ge (tgt := 15) hx hb dL_bits_7 (by decide) (fun _ => ?_) (fun h9 => absurd hpos h9)
  refine lv_iload_n hx hb dL_bits_15 rfl (lv_at hl 0 rfl) ?_
  refine lv_topi (fun v9 e9 => ?_)
  have e9 := e9.trans hvn
  subst e9
  refine lv_istore_n (lv' := [(1, .int (nI n)), (0, .int v)]) hx hb dL_bits_16 rfl hl (by decide) rfl (fun ls hl => ?_)
  refine lv_iconst (v := 0) hx hb dL_bits_17 (by decide) ?_
  refine lv_istore_n (lv' := [(2, .int 0), (1, .int (nI n)), (0, .int v)]) hx hb dL_bits_18 rfl hl (by decide) rfl (fun ls hl => ?_)
  exact loop lg 0 ls (by omega) (lv_sub hl [2, 1, 0] rfl)
set_option maxHeartbeats 4000000 in
set_option maxRecDepth 100000 in
theorem c_bits_neg (l : Launch) (Hp : Heap) (v : Int32) (n : Nat) (h0 : 0 < n) (h1 : n < 2 ^ 24) (hv0 : ¬ v = 0) (hneg : ¬ 0 ≤ v) (hvn : -v = nI n) : Met l yL_bits wsL_bits ({ frames := 2, cells := 0, slots := 0, locals := 40 }) (va_Pc [.int v] (fun U => U.heap = Hp)) (va_Qi (fun (r : Int32) (_ : Unit) => r = nI (2 ^ 31 + hbN n)) (fun _ t => t.heap = Hp) (fun _ => False)) 0 0 (fun _ => False) := by
  obtain ⟨lg, hlg⟩ : ∃ z, z = n.log2 := ⟨_, rfl⟩
  have hlf := log_facts h0 h1
  rw [← hlg] at hlf
  obtain ⟨f1, f2, f3⟩ := hlf
  have hZ : hbN n = (126 + lg) * 2 ^ 23 + (n - 2 ^ lg) * 2 ^ (23 - lg) := by unfold hbN; rw [← hlg]
  refine Met.ofW (cc := cL_bits) (maxL := 4) (ret := some .int) (by decide) rfl ?_
  intro p e s m args below meth c s₁ B hml hv
  obtain ⟨rfl, hH⟩ := hv
  subst hH
  have hx := B.exec
  have hb := B.bytes
  have hr := B.returns
  have hts := atoms_spec (ws := wsL_bits) B.pre
  have hown : s.vm.findClass RL = some m.cls := findClass_of_methodNamed B.named
  have hlocks := B.notSynchronized
  have hS : va_S (fun _ => False) s.heap s.heap [] := va_S.rf
  have hA : ∀ q : Nat, s.heap.size ≤ q → aNew s.heap q := fun q h => h
  have hl := lv_entry ([.int v]) (n := 4) (Nat.le_of_ble_eq_true rfl)
  rw [lg_entry_eq]
  generalize (lg_sl ([.int v]) ++ List.replicate (4 - (lg_sl ([.int v])).length) Slot.unset).toArray = ls at hl ⊢
  have hl : lv_has ls 4 [(0, .int v)] := hl
  have hf0 : ∀ q ∈ ([] : List Loc), (fun _ : Addr => False) q.base := fun q hq => absurd hq List.not_mem_nil
  have loop : ∀ (r i : Nat) (ls : Array Slot), i + r = lg → lv_has ls 4 [(0, .int v), (1, .int (nI n)), (2, .int (nI i))] → W p l e (headSpec wsL_bits ({ frames := 2, cells := 0, slots := 0, locals := 40 })).room s m ([.int v]).toArray below meth c s.heap [] 0 0 (MQ below (va_Qi (fun (r : Int32) (_ : Unit) => r = nI (2 ^ 31 + hbN n)) (fun _ t => t.heap = s.heap) (fun _ => False)) ([.int v]).toArray s 0 0 (fun _ => False)) (F0 m 19 ls []) := by
    intro r
    induction r with
    | zero =>
      intro i ls hi hl
      have hi : lg = i := by omega
      subst hi
      refine lv_iload_n hx hb dL_bits_19 rfl (lv_at hl 1 rfl) ?_
      refine lv_iload_n hx hb dL_bits_20 rfl (lv_at hl 2 rfl) ?_
      refine lv_iconst (v := 1) hx hb dL_bits_21 (by decide) ?_
      refine lv_iadd hx hb dL_bits_22 ?_
      refine lv_topi (fun v9 e9 => ?_)
      have e9 := e9.trans (nI_add lg 1)
      subst e9
      refine lv_ishr hx hb dL_bits_23 ?_
      refine lv_topi (fun v9 e9 => ?_)
      have e9 := e9.trans (shr_nI (by omega) (by omega))
      subst e9
      refine lv_if_le (tgt := 33) hx hb dL_bits_24 (by decide) (fun _ => ?_) (fun h9 => absurd (by rw [Nat.div_eq_of_lt f2]; decide) h9)
      refine lv_iload_n hx hb dL_bits_33 rfl (lv_at hl 2 rfl) ?_
      refine lv_bipush (v := 24) hx hb dL_bits_34 (by decide) ?_
      refine lv_icmp_ge (tgt := 52) hx hb dL_bits_36 (by decide) (fun h9 => absurd h9 (nI_ge (a := lg) (b := 24) f3 (by omega))) (fun _ => ?_)
      refine lv_iload_n hx hb dL_bits_39 rfl (lv_at hl 1 rfl) ?_
      refine lv_iconst (v := 1) hx hb dL_bits_40 (by decide) ?_
      refine lv_iload_n hx hb dL_bits_41 rfl (lv_at hl 2 rfl) ?_
      refine lv_ishl hx hb dL_bits_42 ?_
      refine lv_topi (fun v9 e9 => ?_)
      have e9 := e9.trans (one_shl lg f3)
      subst e9
      refine lv_isub hx hb dL_bits_43 ?_
      refine lv_topi (fun v9 e9 => ?_)
      have e9 := e9.trans (nI_subN f1)
      subst e9
      refine lv_bipush (v := 23) hx hb dL_bits_44 (by decide) ?_
      refine lv_iload_n hx hb dL_bits_46 rfl (lv_at hl 2 rfl) ?_
      refine lv_isub hx hb dL_bits_47 ?_
      refine lv_topi (fun v9 e9 => ?_)
      have e9 := e9.trans (nI_subN (a := 23) (b := lg) (by omega))
      subst e9
      refine lv_ishl hx hb dL_bits_48 ?_
      refine lv_topi (fun v9 e9 => ?_)
      have e9 := e9.trans (shl_nI _ (by omega))
      subst e9
      refine lv_goto (tgt := 53) hx hb dL_bits_49 (by decide) ?_
      refine lv_istore_n (lv' := [(3, .int (nI ((n - 2 ^ lg) * 2 ^ (23 - lg)))), (0, .int v), (1, .int (nI n)), (2, .int (nI lg))]) hx hb dL_bits_53 rfl hl (by decide) rfl (fun ls hl => ?_)
      refine lv_iload_n hx hb dL_bits_54 rfl (lv_at hl 1 rfl) ?_
      refine lv_if_ge (tgt := 63) hx hb dL_bits_55 (by decide) (fun h9 => absurd h9 hneg) (fun _ => ?_)
      refine lv_ldc (v := (-2147483648)) hx hb hown (hts (.constant RL 10 (-2147483648)) (by decide +kernel)) dL_bits_58 ?_
      refine lv_goto (tgt := 64) hx hb dL_bits_60 (by decide) ?_
      refine lv_bipush (v := 126) hx hb dL_bits_64 (by decide) ?_
      refine lv_iload_n hx hb dL_bits_66 rfl (lv_at hl 3 rfl) ?_
      refine lv_iadd hx hb dL_bits_67 ?_
      refine lv_topi (fun v9 e9 => ?_)
      have e9 := e9.trans (nI_add 126 lg)
      subst e9
      refine lv_bipush (v := 23) hx hb dL_bits_68 (by decide) ?_
      refine lv_ishl hx hb dL_bits_70 ?_
      refine lv_topi (fun v9 e9 => ?_)
      have e9 := e9.trans (sh23 (126 + lg) (by omega))
      subst e9
      refine lv_iadd hx hb dL_bits_71 ?_
      refine lv_topi (fun v9 e9 => ?_)
      have e9 := e9.trans (min_add _)
      subst e9
      refine lv_iload_n hx hb dL_bits_72 rfl (lv_at hl 0 rfl) ?_
      refine lv_iadd hx hb dL_bits_73 ?_
      refine lv_topi (fun v9 e9 => ?_)
      have e9 := e9.trans (nI_add (2 ^ 31 + (126 + lg) * 2 ^ 23) ((n - 2 ^ lg) * 2 ^ (23 - lg)))
      subst e9
      exact W.iret hx hb hr (fun t ht hW => ⟨⟨_, (), rfl, (by rw [hZ]; exact congrArg nI (by omega)), ht⟩, (va_S.rf (A := fun _ => False)).F ht⟩) hf0 dL_bits_74
    | succ r ih =>
      intro i ls hi hl
      have hp : 2 ^ (i + 1) ≤ n := Nat.le_trans (Nat.pow_le_pow_right (by decide) (by omega)) f1
      have hq : 0 < n / 2 ^ (i + 1) := Nat.div_pos hp (Nat.two_pow_pos _)
      refine lv_iload_n hx hb dL_bits_19 rfl (lv_at hl 1 rfl) ?_
      refine lv_iload_n hx hb dL_bits_20 rfl (lv_at hl 2 rfl) ?_
      refine lv_iconst (v := 1) hx hb dL_bits_21 (by decide) ?_
      refine lv_iadd hx hb dL_bits_22 ?_
      refine lv_topi (fun v9 e9 => ?_)
      have e9 := e9.trans (nI_add i 1)
      subst e9
      refine lv_ishr hx hb dL_bits_23 ?_
      refine lv_topi (fun v9 e9 => ?_)
      have e9 := e9.trans (shr_nI (by omega) (by omega))
      subst e9
      refine lv_if_le (tgt := 33) hx hb dL_bits_24 (by decide) (fun h9 => absurd h9 (nI_nle hq (Nat.lt_of_le_of_lt (Nat.div_le_self _ _) (by omega)))) (fun _ => ?_)
      refine lv_iinc (v := (nI (i + 1))) (lv' := [(2, .int (nI (i + 1))), (0, .int v), (1, .int (nI n))]) hx hb dL_bits_27 hl (k := 2) rfl (nI_1 i) (by decide) rfl (fun ls hl => ?_)
      refine lv_goto (tgt := 19) hx hb dL_bits_30 (by decide) ?_
      exact ih (i + 1) ls (by omega) (lv_sub hl [1, 2, 0] rfl)
  refine lv_iload_n hx hb dL_bits_0 rfl (lv_at hl 0 rfl) ?_
  refine lv_if_ne (tgt := 6) hx hb dL_bits_1 (by decide) (fun _ => ?_) (fun h9 => absurd h9 hv0)
  refine lv_iload_n hx hb dL_bits_6 rfl (lv_at hl 0 rfl) ?_
  refine lv_if_ge (tgt := 15) hx hb dL_bits_7 (by decide) (fun h9 => absurd h9 hneg) (fun _ => ?_)
  refine lv_iload_n hx hb dL_bits_10 rfl (lv_at hl 0 rfl) ?_
  refine lv_ineg hx hb dL_bits_11 ?_
  refine lv_goto (tgt := 16) hx hb dL_bits_12 (by decide) ?_
  refine lv_topi (fun v9 e9 => ?_)
  have e9 := e9.trans hvn
  subst e9
  refine lv_istore_n (lv' := [(1, .int (nI n)), (0, .int v)]) hx hb dL_bits_16 rfl hl (by decide) rfl (fun ls hl => ?_)
  refine lv_iconst (v := 0) hx hb dL_bits_17 (by decide) ?_
  refine lv_istore_n (lv' := [(2, .int 0), (1, .int (nI n)), (0, .int v)]) hx hb dL_bits_18 rfl hl (by decide) rfl (fun ls hl => ?_)
  exact loop lg 0 ls (by omega) (lv_sub hl [2, 1, 0] rfl)
set_option maxHeartbeats 4000000 in
set_option maxRecDepth 100000 in
theorem c_bits_zero (l : Launch) (Hp : Heap) : Met l yL_bits wsL_bits ({ frames := 2, cells := 0, slots := 0, locals := 40 }) (va_Pc [.int 0] (fun U => U.heap = Hp)) (va_Qi (fun (r : Int32) (_ : Unit) => r = 0) (fun _ t => t.heap = Hp) (fun _ => False)) 0 0 (fun _ => False) := by
  refine Met.ofW (cc := cL_bits) (maxL := 4) (ret := some .int) (by decide) rfl ?_
  intro p e s m args below meth c s₁ B hml hv
  obtain ⟨rfl, hH⟩ := hv
  subst hH
  have hx := B.exec
  have hb := B.bytes
  have hr := B.returns
  have hts := atoms_spec (ws := wsL_bits) B.pre
  have hown : s.vm.findClass RL = some m.cls := findClass_of_methodNamed B.named
  have hlocks := B.notSynchronized
  have hS : va_S (fun _ => False) s.heap s.heap [] := va_S.rf
  have hA : ∀ q : Nat, s.heap.size ≤ q → aNew s.heap q := fun q h => h
  have hl := lv_entry ([.int 0]) (n := 4) (Nat.le_of_ble_eq_true rfl)
  rw [lg_entry_eq]
  generalize (lg_sl ([.int 0]) ++ List.replicate (4 - (lg_sl ([.int 0])).length) Slot.unset).toArray = ls at hl ⊢
  have hl : lv_has ls 4 [(0, .int 0)] := hl
  refine lv_iload_n hx hb dL_bits_0 rfl (lv_at hl 0 rfl) ?_
  refine lv_if_ne (tgt := 6) hx hb dL_bits_1 (by decide) (fun h9 => absurd (by decide) h9) (fun _ => ?_)
  refine lv_iconst (v := 0) hx hb dL_bits_4 (by decide) ?_
  exact W.iret hx hb hr (fun t ht hW => ⟨⟨_, (), rfl, rfl, ht⟩, (va_S.rf (A := fun _ => False)).F ht⟩) (fun q hq => absurd hq List.not_mem_nil) dL_bits_5
/-- a float of n halves has these bits -/
theorem pow_unique {c k e t : Nat} (c1 : 2 ^ 23 ≤ c) (c2 : c < 2 ^ 24) (k1 : 2 ^ 23 ≤ k) (k2 : k < 2 ^ 24) (h : c * 2 ^ e = k * 2 ^ t) : e = t ∧ c = k := by
  have key : ∀ {a b x y : Nat}, a < 2 ^ 24 → 2 ^ 23 ≤ b → a * 2 ^ x = b * 2 ^ y → y ≤ x := by
    intro a b x y ha hb9 hh
    rcases Nat.lt_or_ge x y with q | q
    · exfalso
      have h1 : a * 2 ^ x < 2 ^ 24 * 2 ^ x := Nat.mul_lt_mul_of_pos_right ha (Nat.two_pow_pos x)
      have h2 : 2 ^ 24 * 2 ^ x = 2 ^ 23 * 2 ^ (x + 1) := by rw [Nat.pow_succ]; omega
      have h3 : 2 ^ 23 * 2 ^ (x + 1) ≤ 2 ^ 23 * 2 ^ y := Nat.mul_le_mul_left _ (Nat.pow_le_pow_right (by decide) q)
      have h4 : 2 ^ 23 * 2 ^ y ≤ b * 2 ^ y := Nat.mul_le_mul_right _ hb9
      omega
    · exact q
  have e1 := key c2 k1 h
  have e2 := key k2 c1 h.symm
  have e3 : e = t := by omega
  subst e3
  exact ⟨rfl, Nat.eq_of_mul_eq_mul_right (Nat.two_pow_pos e) h⟩
theorem mF_bits {n : Nat} {b : UInt32} {σ : Bool} {m : Int} (h0 : 0 < n) (h1 : n < 2 ^ 24) (hm : mF m b) (hs : m = FP.Core.signed σ n) : b.toInt32 = nI (σ.toNat * 2 ^ 31 + hbN n) := by
  obtain ⟨s, c, q, hv, hq, hz, hc, he⟩ := hm
  obtain ⟨f1, f2, f3⟩ := log_facts h0 h1
  obtain ⟨lg, hlg⟩ : ∃ z, z = n.log2 := ⟨_, rfl⟩
  have hs1 : s = σ ∧ c * 2 ^ (q + 149).toNat = n * 2 ^ 148 := by
    rw [hs] at he
    have hp : 0 < n * 2 ^ 148 := Nat.mul_pos h0 (Nat.two_pow_pos _)
    have e148 : FP.Core.signed σ n * 2 ^ 148 = FP.Core.signed σ (n * 2 ^ 148) := by rw [← p148, ← FP.Core.signed_mul]
    rw [e148] at he
    generalize n * 2 ^ 148 = X at he hp
    generalize c * 2 ^ (q + 149).toNat = Y at he
    cases s <;> cases σ <;> simp only [FP.Core.signed, if_true, Bool.false_eq_true, if_false] at he
    · exact ⟨rfl, by omega⟩
    · exfalso; omega
    · exfalso; omega
    · exact ⟨rfl, by omega⟩
  obtain ⟨rfl, he⟩ := hs1
  have hc0 : ¬ c = 0 := fun w => by
    rw [w, Nat.zero_mul] at he
    have hp : 0 < n * 2 ^ 148 := Nat.mul_pos h0 (Nat.two_pow_pos _)
    exact absurd he (Nat.ne_of_lt hp)
  obtain ⟨c1, c2, q1, q2⟩ := hc.resolve_left hc0
  have hk1 : 2 ^ 23 ≤ n * 2 ^ (23 - n.log2) := by
    calc 2 ^ 23 = 2 ^ n.log2 * 2 ^ (23 - n.log2) := by rw [← Nat.pow_add, show n.log2 + (23 - n.log2) = 23 by omega]
      _ ≤ n * 2 ^ (23 - n.log2) := Nat.mul_le_mul_right _ f1
  have hk2 : n * 2 ^ (23 - n.log2) < 2 ^ 24 := by
    calc n * 2 ^ (23 - n.log2) < 2 ^ (n.log2 + 1) * 2 ^ (23 - n.log2) := Nat.mul_lt_mul_of_pos_right f2 (Nat.two_pow_pos _)
      _ = 2 ^ 24 := by rw [← Nat.pow_add, show n.log2 + 1 + (23 - n.log2) = 24 by omega]
  have hkk : c * 2 ^ (q + 149).toNat = n * 2 ^ (23 - n.log2) * 2 ^ (125 + n.log2) := by
    rw [he, Nat.mul_assoc, ← Nat.pow_add, show 23 - n.log2 + (125 + n.log2) = 148 by omega]
  obtain ⟨g1, g2⟩ := pow_unique c1 c2 hk1 hk2 hkk
  rw [bits_of hv c1 c2 (by omega) (by omega)]
  have hq9 : (q + 150).toNat = 126 + n.log2 := by omega
  have hc9 : c - 2 ^ 23 = (n - 2 ^ n.log2) * 2 ^ (23 - n.log2) := by
    rw [Nat.sub_mul, ← g2, ← Nat.pow_add, show n.log2 + (23 - n.log2) = 23 by omega]
  rw [hq9, hc9]
  unfold hbN
  refine congrArg nI ?_
  rw [Nat.add_mul, Nat.mul_assoc, show 256 * 2 ^ 23 = 2 ^ 31 by decide, Nat.add_assoc]
theorem c_L_bits (l : Launch) (Hp : Heap) (v : Int32) (b : UInt32) (hm : mF v.toInt b) (hv1 : -(2 ^ 24) < v.toInt) (hv2 : v.toInt < 2 ^ 24) : Met l yL_bits wsL_bits ({ frames := 2, cells := 0, slots := 0, locals := 40 }) (va_Pc [.int v] (fun U => U.heap = Hp)) (va_Qi (fun (r : Int32) (_ : Unit) => r = b.toInt32) (fun _ t => t.heap = Hp) (fun _ => False)) 0 0 (fun _ => False) := by
  have z0 : (0 : Int32).toInt = 0 := by decide
  rcases Int.lt_trichotomy v.toInt 0 with h | h | h
  · have hn : -v = nI v.toInt.natAbs := by
      apply Int32.toInt_inj.mp
      rw [nI_toInt (by omega), ← Int32.zero_sub, i32_sub (by rw [z0]; omega) (by rw [z0]; omega), z0]
      omega
    rw [mF_bits (n := v.toInt.natAbs) (σ := true) (by omega) (by omega) hm (by show v.toInt = -((v.toInt.natAbs : Nat) : Int); omega)]
    rw [show true.toNat * 2 ^ 31 = 2 ^ 31 by decide]
    exact c_bits_neg l Hp v v.toInt.natAbs (by omega) (by omega) (fun w => by rw [w, z0] at h; omega) (fun w => by rw [Int32.le_iff_toInt_le, z0] at w; omega) hn
  · have hv : v = 0 := Int32.toInt_inj.mp (by rw [h, z0])
    obtain ⟨s, c, q, hv9, hq, hz, hc, he⟩ := hm
    have hc0 : c = 0 := by
      rw [h, Int.zero_mul] at he
      rcases Nat.eq_zero_or_pos c with w | w
      · exact w
      · exfalso
        have hp : 0 < c * 2 ^ (q + 149).toNat := Nat.mul_pos w (Nat.two_pow_pos _)
        generalize c * 2 ^ (q + 149).toNat = X at he hp
        cases s <;> simp only [FP.Core.signed, if_true, Bool.false_eq_true, if_false] at he <;> omega
    have hb0 : b = 0 := by
      rw [hz hc0, hc0] at hv9
      exact zero_of hv9
    subst hb0
    subst hv
    exact c_bits_zero l Hp
  · have hn : v = nI v.toInt.natAbs := by
      apply Int32.toInt_inj.mp
      rw [nI_toInt (by omega)]
      omega
    have hb := mF_bits (n := v.toInt.natAbs) (σ := false) (by omega) (by omega) hm (by show v.toInt = ((v.toInt.natAbs : Nat) : Int); omega)
    rw [show false.toNat * 2 ^ 31 = 0 by decide, Nat.zero_add] at hb
    rw [hb]
    exact c_bits_pos l Hp v v.toInt.natAbs (by omega) (by omega) (fun w => by rw [w, z0] at h; omega) (by rw [Int32.le_iff_toInt_le, z0]; omega) hn
