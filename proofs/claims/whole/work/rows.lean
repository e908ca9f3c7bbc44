section
-- ===== PART A: goes FIRST, ahead of the names: the tables' words, and 'selects' of the private methods out of them =====
/-- a private method of a class that the tables say can be made, by its rows of tables_1 -/
def lw_okq (q : MethodName × Nat) : Prop := (q.1.cls ≠ "java/lang/invoke/MethodHandle" ∧ q.1.cls ≠ "java/lang/invoke/VarHandle") ∧ Cond.instantiable q.1.cls q.2 ∈ tables_1 ∧ Cond.privateMethod q.1 ∈ tables_1 ∧ Cond.instanceMethod q.1 ∈ tables_1
theorem lw_p0 : lw_okq (⟨"java/lang/Throwable", "fillInStackTrace", "(I)Ljava/lang/Throwable;"⟩, 6) := ⟨⟨by decide +kernel, by decide +kernel⟩, List.mem_of_getElem? (i := 138) (by decide +kernel), List.mem_of_getElem? (i := 136) (by decide +kernel), List.mem_of_getElem? (i := 137) (by decide +kernel)⟩
theorem lw_p1 : lw_okq (⟨"TidegateBourse", "goBy", "(I)V"⟩, 15) := ⟨⟨by decide +kernel, by decide +kernel⟩, List.mem_of_getElem? (i := 12) (by decide +kernel), List.mem_of_getElem? (i := 272) (by decide +kernel), List.mem_of_getElem? (i := 273) (by decide +kernel)⟩
theorem lw_p2 : lw_okq (⟨"TidegateBourse", "noteFor", "(I)I"⟩, 15) := ⟨⟨by decide +kernel, by decide +kernel⟩, List.mem_of_getElem? (i := 12) (by decide +kernel), List.mem_of_getElem? (i := 276) (by decide +kernel), List.mem_of_getElem? (i := 277) (by decide +kernel)⟩
theorem lw_p3 : lw_okq (⟨"TidegateBourse", "makeUnits", "(II)I"⟩, 15) := ⟨⟨by decide +kernel, by decide +kernel⟩, List.mem_of_getElem? (i := 12) (by decide +kernel), List.mem_of_getElem? (i := 290) (by decide +kernel), List.mem_of_getElem? (i := 291) (by decide +kernel)⟩
theorem lw_p4 : lw_okq (⟨"TidegateBourse", "settle", "(I)V"⟩, 15) := ⟨⟨by decide +kernel, by decide +kernel⟩, List.mem_of_getElem? (i := 12) (by decide +kernel), List.mem_of_getElem? (i := 306) (by decide +kernel), List.mem_of_getElem? (i := 307) (by decide +kernel)⟩
theorem lw_p5 : lw_okq (⟨"TidegateBourse", "unitsFromNotes", "(II)I"⟩, 15) := ⟨⟨by decide +kernel, by decide +kernel⟩, List.mem_of_getElem? (i := 12) (by decide +kernel), List.mem_of_getElem? (i := 324) (by decide +kernel), List.mem_of_getElem? (i := 325) (by decide +kernel)⟩
theorem lw_p6 : lw_okq (⟨"TidegateBourseModel", "isTurbine", "(I)Z"⟩, 17) := ⟨⟨by decide +kernel, by decide +kernel⟩, List.mem_of_getElem? (i := 362) (by decide +kernel), List.mem_of_getElem? (i := 447) (by decide +kernel), List.mem_of_getElem? (i := 448) (by decide +kernel)⟩
theorem lw_p7 : lw_okq (⟨"TidegateBourseModel", "goes", "()V"⟩, 17) := ⟨⟨by decide +kernel, by decide +kernel⟩, List.mem_of_getElem? (i := 362) (by decide +kernel), List.mem_of_getElem? (i := 471) (by decide +kernel), List.mem_of_getElem? (i := 472) (by decide +kernel)⟩
theorem lw_p8 : lw_okq (⟨"TidegateBourseModel", "makes", "(II)I"⟩, 17) := ⟨⟨by decide +kernel, by decide +kernel⟩, List.mem_of_getElem? (i := 362) (by decide +kernel), List.mem_of_getElem? (i := 475) (by decide +kernel), List.mem_of_getElem? (i := 476) (by decide +kernel)⟩
theorem lw_p9 : lw_okq (⟨"TidegateBourseModel", "isGone", "(I)Z"⟩, 17) := ⟨⟨by decide +kernel, by decide +kernel⟩, List.mem_of_getElem? (i := 362) (by decide +kernel), List.mem_of_getElem? (i := 488) (by decide +kernel), List.mem_of_getElem? (i := 489) (by decide +kernel)⟩
def lw_privs_1 : List (MethodName × Nat) := [(⟨"java/lang/Throwable", "fillInStackTrace", "(I)Ljava/lang/Throwable;"⟩, 6), (⟨"TidegateBourse", "goBy", "(I)V"⟩, 15), (⟨"TidegateBourse", "noteFor", "(I)I"⟩, 15), (⟨"TidegateBourse", "makeUnits", "(II)I"⟩, 15), (⟨"TidegateBourse", "settle", "(I)V"⟩, 15), (⟨"TidegateBourse", "unitsFromNotes", "(II)I"⟩, 15), (⟨"TidegateBourseModel", "isTurbine", "(I)Z"⟩, 17), (⟨"TidegateBourseModel", "goes", "()V"⟩, 17), (⟨"TidegateBourseModel", "makes", "(II)I"⟩, 17), (⟨"TidegateBourseModel", "isGone", "(I)Z"⟩, 17)]
theorem lw_r1 : ∀ q ∈ lw_privs_1, lw_okq q := List.forall_mem_cons.mpr ⟨lw_p0, List.forall_mem_cons.mpr ⟨lw_p1, List.forall_mem_cons.mpr ⟨lw_p2, List.forall_mem_cons.mpr ⟨lw_p3, List.forall_mem_cons.mpr ⟨lw_p4, List.forall_mem_cons.mpr ⟨lw_p5, List.forall_mem_cons.mpr ⟨lw_p6, List.forall_mem_cons.mpr ⟨lw_p7, List.forall_mem_cons.mpr ⟨lw_p8, List.forall_mem_cons.mpr ⟨lw_p9, fun _ h => absurd h List.not_mem_nil⟩⟩⟩⟩⟩⟩⟩⟩⟩⟩
def lw_privs : List (MethodName × Nat) := lw_privs_1
def lw_tbl : List Cond := k2_sels lw_privs ++ tables_1
theorem lw_privs_ok : ∀ q ∈ lw_privs, lw_okq q := lw_r1
/-- the streams that the claim lets the run draw from -/
abbrev lw_cs : List Choice := [Jvm.Choice.named "NaN.bits"]
theorem lw_bits : nanBits ∈ lw_cs := by first | decide | exact List.mem_cons_self | simp [lw_cs, nanBits]
-- ===== end of PART A; then your names; then what follows =====
/-! ===== BEGIN words of one list among another's, by their places ===== -/
theorem goodIn_r {big : List Cond} (ws : List Cond) (ps : List Nat) (hp : ws = ps.filterMap (fun i => big[i]?)) (h : ws.all goodWord = true) : GoodIn big ws := by
  intro w hw
  have h1 := List.all_eq_true.mp h w hw
  rw [hp] at hw
  obtain ⟨i, -, hi⟩ := List.mem_filterMap.mp hw
  have hm : w ∈ big := by first | exact List.mem_of_getElem? hi | exact List.getElem?_mem hi
  exact ⟨hm, good_of_word h1⟩
theorem goodIn_app {big a b : List Cond} (ha : GoodIn big a) (hb : GoodIn big b) : GoodIn big (a ++ b) := fun w h => (List.mem_append.mp h).elim (ha w) (hb w)
theorem goodIn_ca {big a b : List Cond} {c : Cond} (ha : GoodIn big (c :: a)) (hb : GoodIn big b) : GoodIn big (c :: (a ++ b)) := fun w h => (List.mem_cons.mp h).elim (fun e => ha w (List.mem_cons.mpr (Or.inl e))) (fun h => (List.mem_append.mp h).elim (fun h => ha w (List.mem_cons.mpr (Or.inr h))) (hb w))
theorem goodIn_sub {big ws : List Cond} (hm : ∀ w ∈ ws, w ∈ big) (h : ws.all goodWord = true) : GoodIn big ws := fun w hw => ⟨hm w hw, good_of_word (List.all_eq_true.mp h w hw)⟩
/-! ===== END ===== -/

/-! ===== BEGIN exceptions that leave a method, and their catching by the caller (launches without stack traces) ===== -/
section VXA
/-! The laws vx_back, vx_callV, vx_callS, vx_callSW, vx_throw0, vx_throwS follow proofs of the library, with one case more: JvmDerived/Free/Laws.lean (Back.of_free), Shelf42/LK1.lean (callV, callS), Shelf/KitTraced.lean (throwNew0V, throwNewS). -/
/-- where a method has thrown q: the class by its name, the cell, what was written, the world -/
def vx_T (XC : String → State → State → Prop) (st : State) (q : Addr) (t : State) (mc ms : Nat) (free : Addr → Prop) : Prop :=
  ∃ (E : String) (ce : Cell) (L : List Loc), XC E st t ∧ t.heap[q]? = some ce ∧ ce.vm = .none ∧ st.vm.findClass E = some ce.cls ∧ st.WarmedH t.vm ∧ st.sameButNew ({ t with vm := st.vm } : State) L mc ms ∧ ∀ z ∈ L, free z.base
def vx_Q (Qc : Array Value → State → Outcome → State → Prop) (XC : String → State → State → Prop) (mc ms : Nat) (free : Addr → Prop) : Array Value → State → Outcome → State → Prop := fun a st o t =>
  (Qc a st o t ∧ ∃ L, FrameEnd st o t L mc ms ∧ ∀ q ∈ L, free q.base) ∨ ∃ q, o = .threw q ∧ vx_T XC st q t mc ms free
/-- a callee that returns or throws -/
def vx_Met (l : Launch) (y : MethodName) (ws : List Cond) (rm : Room) (Pc : Array Value → State → Prop) (Qc : Array Value → State → Outcome → State → Prop) (XC : String → State → State → Prop) (mc ms : Nat) (free : Addr → Prop) : Prop :=
  MetFree l y (headSpec ws rm) Pc (fun _ _ _ _ _ => True) (vx_Q Qc XC mc ms free)
def vx_Post (XC : String → State → State → Prop) (mc ms : Nat) (free : Addr → Prop) : Pt → Array Value → Addr → Pt → Prop := fun A a q B =>
  ∃ (g : JFrame) (mk : MethodId) (t : State) (L : List Loc) (E : String) (ce : Cell), B.U.heap = t.heap ∧ B.U.vm = t.vm ∧ XC E (A.U.calling g mk a) t ∧ t.heap[q]? = some ce ∧ ce.vm = .none ∧ A.U.vm.findClass E = some ce.cls ∧ B.locs = A.locs ++ L ∧ (∀ z ∈ L, free z.base) ∧ B.cells = A.cells + mc ∧ B.slots = A.slots + ms
def vx_Back (l : Launch) (R : Room) (p : Program) (e : Env) (below : List Frame) (s : State) (sargs : Array Value) (y : MethodName) (len W9 : Nat)
    (Pre : Pt → Array Value → Prop) (Post : Pt → Array Value → Option Value → Pt → Prop) (PostX : Pt → Array Value → Addr → Pt → Prop) : Prop :=
  ∀ (m : MethodId) (meth : Method) (c : Code) (A : Pt) (g : JFrame) (ig : Instr) (mk : MethodId) (a : Array Value),
    Stand p l e R s m sargs below meth c A.U A.locs A.cells A.slots → g.method = m → g.locals.size = c.maxLocals → decode c.code g.pc = .ok (ig, len) →
    2 * g.monitorRoom + (g.stack.map fun v => v.category).sum ≤ W9 → A.U.methodNamed? y = some mk → Pre A a →
    (∃ (v : Option Value) (B : Pt), Stand p l e R s m sargs below meth c B.U B.locs B.cells B.slots ∧ Post A a v B ∧
      Steps p.tables e below (doInvoke e (A.U.setTop g) [] mk a).1 (B.U.setTop { g with pc := g.pc + len, stack := v.toList ++ g.stack })) ∨
    (∃ (q : Addr) (B : Pt), Stand p l e R s m sargs below meth c B.U B.locs B.cells B.slots ∧ PostX A a q B ∧
      Steps p.tables e below (doInvoke e (A.U.setTop g) [] mk a).1 ((B.U.setTop g).pushFrame (.throwing q)))
section Payer
variable {l : Launch} {R : Room} {p : Program} {e : Env} {below : List Frame} {s : State} {sargs : Array Value} {y : MethodName} {len W9 : Nat}
theorem vx_back {ws : List Cond} {rm : Room} {Pc : Array Value → State → Prop} {Qc : Array Value → State → Outcome → State → Prop} {XC : String → State → State → Prop} {mc ms : Nat} {free : Addr → Prop} {bytes : ByteArray} {maxL : Nat} {ret : Option FieldType}
    (hM : vx_Met l y ws rm Pc Qc XC mc ms free) (hblind : FrameBlind Pc) (hrc : rm.cells = mc) (hrs : rm.slots = ms)
    (hframes : rm.frames + 1 ≤ R.frames) (hlocals : W9 + (maxL + 11) + rm.locals ≤ R.locals)
    (hws : ∀ w ∈ ws, ∀ a' U, s.WarmedH U.vm → w.before a' U = true) (hcode : Cond.code y bytes maxL ret ∈ ws) (hinit : ∀ a' U, s.WarmedH U.vm → (Cond.initialized y.cls).before a' U = true) :
    vx_Back l R p e below s sargs y len W9 (PreOf R mc ms Pc) (PostOf Qc mc ms free) (vx_Post XC mc ms free) := by
  intro m meth c A g ig mk a X hg hsize hdg hW hn hp
  have h1 : (headSpec ws rm).pre.before a A.U = true := atoms_intro fun w hw => hws w hw _ _ X.warmed
  have h2 : (Cond.code y bytes maxL ret).before a A.U = true := hws _ hcode _ _ X.warmed
  have h3 : (Cond.initialized y.cls).before a A.U = true := hinit _ _ X.warmed
  have h4 : A.cells + (headSpec ws rm).room.cells ≤ R.cells := by rw [show (headSpec ws rm).room.cells = mc from hrc]; exact hp.1
  have h5 : A.slots + (headSpec ws rm).room.slots ≤ R.slots := by rw [show (headSpec ws rm).room.slots = ms from hrs]; exact hp.2.1
  have hPc : Pc a (A.U.calling g mk a) := hblind _ _ _ _ hp.2.2
  obtain ⟨U, Ls, c0, s0⟩ := A
  dsimp only [Pt.U, Pt.locs, Pt.cells, Pt.slots] at h1 h2 h3 h4 h5 X hn hPc ⊢
  obtain ⟨methY, cY, hmY, hcY, -, hlY, -, -, -, -⟩ := Cond.code_spec hn h2
  obtain ⟨kY, hkY, -⟩ := className_of_methodNamed hn
  have hinitY : kY.init = .initialized := Cond.initialized_spec (findClass_of_methodNamed hn) hkY h3
  have h : At U g.method c below := by rw [hg]; exact X.here
  have hlocals9 : W9 + (maxL + 11) + (headSpec ws rm).room.locals ≤ R.locals := hlocals
  have happ : (headSpec ws rm).appliesLoose y e.platform (U.calling g mk a) = true :=
    Spec.appliesLoose_calling (g := g) h hdg hn hkY hinitY
      (X.room_calling (g := g) (R' := (headSpec ws rm).room) hsize hmY hcY hframes (by rw [hlY]; omega) h4 h5) h1
  obtain ⟨mid, hmid⟩ := h.above
  have hfr : (U.setTop g).frames = (.java g :: mid) ++ below := by rw [State.frames_setTop' g h.top, hmid]; rfl
  obtain ⟨o, s₂, hsteps, -, hend, hq⟩ := Steps.callFree hM p X.admits X.cas X.clock (acts := []) hfr happ hPc trivial
  have hq' : vx_Q Qc XC mc ms free a (U.calling g mk a) o s₂ := hq
  rw [State.frames_setTop' g h.top] at hend
  obtain ⟨g₀, hg0⟩ := Option.isSome_iff_exists.mp h.top
  obtain ⟨r, hr⟩ := State.topJava?_eq_some.mp hg0
  have hr' : (({ U with heap := s₂.heap, slotsUsed := s₂.slotsUsed } : State).setVm s₂.vm).frames = .java g₀ :: r := hr
  rcases hq' with ⟨hqc, L, hfe, hL⟩ | ⟨q, rfl, E, ce, L, hx, hce, hcv, hcl, hW₂, hsm, hL⟩
  · obtain ⟨⟨v, rfl⟩, hW₂, e2, q2, q3, q4, q5, q6⟩ := id hfe
    have e3 : s₂ = ({ (U.calling g mk a).setFrames s₂.frames with heap := s₂.heap, slotsUsed := s₂.slotsUsed } : State).setVm s₂.vm := by
      have : s₂ = ({ s₂ with vm := (U.calling g mk a).vm } : State).setVm s₂.vm := rfl
      rw [e2] at this
      exact this
    obtain ⟨c₂, i₂, len₂, hc₂, hd₂, hf₂⟩ := hend
    have hW' : U.WarmedH s₂.vm := hW₂
    have hcc : c₂ = c := by
      have h1 : s₂.code? g.method = U.code? g.method := by
        rw [State.code?_eq, State.code?_eq, hW'.alike.method?]
      exact Option.some.inj (hc₂.symm.trans (h1.trans h.code))
    subst hcc
    have hlen : len₂ = len := by rw [hdg] at hd₂; cases hd₂; rfl
    subst hlen
    have hs₂ : s₂ = (({ U with heap := s₂.heap, slotsUsed := s₂.slotsUsed } : State).setVm s₂.vm).setTop { g with pc := g.pc + len₂, stack := v.toList ++ g.stack } := by
      refine e3.trans ?_
      rw [hf₂, State.calling_eq h.top, State.setFrames_setFrames, State.setTop_of_frames _ hr', hr]
      rfl
    have hsame : U.sameButNew ({ U with heap := s₂.heap, slotsUsed := s₂.slotsUsed } : State) L mc ms := by
      refine ⟨?_, q2, q3, q4, q5, q6⟩
      obtain ⟨t, ht, -⟩ := State.frames_cons hr
      show ({ U with heap := s₂.heap, slotsUsed := s₂.slotsUsed } : State) = { U.setFrames U.frames with heap := s₂.heap, slotsUsed := s₂.slotsUsed }
      rw [State.setFrames_self ht]
    subst hg
    refine Or.inl ⟨v, ⟨(({ U with heap := s₂.heap, slotsUsed := s₂.slotsUsed } : State).setVm s₂.vm), Ls ++ L, c0 + mc, s0 + ms⟩,
      ⟨X.admits, X.cas, X.clock, X.frames, X.room, X.hears, X.method, X.code, (X.here.setHeapUsed s₂.heap s₂.slotsUsed).setVm hW'.alike, X.tail, State.WarmedH.trans X.warmed hW', X.limits, X.bytes, X.same.trans (hsame.setVm s.vm)⟩,
      ⟨g, mk, s₂, L, rfl, rfl, hqc, rfl, hL, rfl, rfl⟩, ?_⟩
    show Steps p.tables e below _ ((({ U with heap := s₂.heap, slotsUsed := s₂.slotsUsed } : State).setVm s₂.vm).setTop { g with pc := g.pc + len₂, stack := v.toList ++ g.stack })
    rw [← hs₂]
    exact hsteps
  · obtain ⟨e2, q2, q3, q4, q5, q6⟩ := id hsm
    have e3 : s₂ = ({ (U.calling g mk a).setFrames s₂.frames with heap := s₂.heap, slotsUsed := s₂.slotsUsed } : State).setVm s₂.vm := by
      have : s₂ = ({ s₂ with vm := (U.calling g mk a).vm } : State).setVm s₂.vm := rfl
      rw [e2] at this
      exact this
    have hf₂ : s₂.frames = .throwing q :: .java g :: U.frames.tail := hend
    have hW' : U.WarmedH s₂.vm := hW₂
    have hs₂ : s₂ = ((({ U with heap := s₂.heap, slotsUsed := s₂.slotsUsed } : State).setVm s₂.vm).setTop g).pushFrame (.throwing q) := by
      refine e3.trans ?_
      rw [hf₂, State.calling_eq h.top, State.setFrames_setFrames, State.pushFrame, State.frames_setTop _ hr', State.setTop_of_frames _ hr', State.setFrames_setFrames, hr]
      rfl
    have hsame : U.sameButNew ({ U with heap := s₂.heap, slotsUsed := s₂.slotsUsed } : State) L mc ms := by
      refine ⟨?_, q2, q3, q4, q5, q6⟩
      obtain ⟨t, ht, -⟩ := State.frames_cons hr
      show ({ U with heap := s₂.heap, slotsUsed := s₂.slotsUsed } : State) = { U.setFrames U.frames with heap := s₂.heap, slotsUsed := s₂.slotsUsed }
      rw [State.setFrames_self ht]
    subst hg
    refine Or.inr ⟨q, ⟨(({ U with heap := s₂.heap, slotsUsed := s₂.slotsUsed } : State).setVm s₂.vm), Ls ++ L, c0 + mc, s0 + ms⟩,
      ⟨X.admits, X.cas, X.clock, X.frames, X.room, X.hears, X.method, X.code, (X.here.setHeapUsed s₂.heap s₂.slotsUsed).setVm hW'.alike, X.tail, State.WarmedH.trans X.warmed hW', X.limits, X.bytes, X.same.trans (hsame.setVm s.vm)⟩,
      ⟨g, mk, s₂, L, E, ce, rfl, rfl, hx, hce, hcv, hcl, rfl, hL, rfl, rfl⟩, ?_⟩
    show Steps p.tables e below _ (((({ U with heap := s₂.heap, slotsUsed := s₂.slotsUsed } : State).setVm s₂.vm).setTop g).pushFrame (.throwing q))
    rw [← hs₂]
    exact hsteps
end Payer
section Calls
variable {p : Program} {l : Launch} {e : Env} {R : Room} {s : State} {m : MethodId} {args : Array Value} {below : List Frame} {meth : Method} {c : Code} {T : State} {locs : List Loc} {cells slots : Nat}
theorem vx_callV (X : Stand p l e R s m args below meth c T locs cells slots) (hexec : p.tables.exec = Jvm.exec) {own C : String} {index : Nat} {y : MethodName} {bytes : ByteArray} {maxL : Nat} {ret : Option FieldType}
    (hown : s.vm.findClass own = some m.cls) (hlink : (Cond.methodLink own index y).before args s = true) (hinst : (Cond.instanceMethod y).before args s = true) (hsel : (Cond.selects C y y).before args s = true)
    (hcode : (Cond.code y bytes maxL ret).before args s = true) (hy : y.cls ≠ "java/lang/invoke/MethodHandle" ∧ y.cls ≠ "java/lang/invoke/VarHandle")
    {W9 : Nat} {Pre : Pt → Array Value → Prop} {Post : Pt → Array Value → Option Value → Pt → Prop} {PostX : Pt → Array Value → Addr → Pt → Prop} (hK : vx_Back l R p e below s args y 3 W9 Pre Post PostX)
    {b : Addr} {cellB : Cell} (hcell : T.heap[b]? = some cellB) (hobj : cellB.vm.isStatics = false) (hcls : s.vm.findClass C = some cellB.cls)
    {g : JFrame} (hg : g.method = m) (hsize : g.locals.size = c.maxLocals) {argsL rest : List Value} (hlen : ∀ sig, parseMethodDescriptor y.desc = some sig → argsL.length = sig.parameters.length)
    (hstack : g.stack = argsL.reverse ++ .ref b :: rest) (hW : 2 * g.monitorRoom + (rest.map fun v => v.category).sum ≤ W9) (hdg : decode c.code g.pc = .ok (.invokevirtual index, 3))
    (hpre : ∀ vm₁, s.WarmedH vm₁ → Pre ⟨T.setVm vm₁, locs, cells, slots⟩ (Value.ref b :: argsL).toArray) :
    (∃ (v : Option Value) (vm₁ : Vm) (B : Pt), s.WarmedH vm₁ ∧ Stand p l e R s m args below meth c B.U B.locs B.cells B.slots ∧ Post ⟨T.setVm vm₁, locs, cells, slots⟩ (Value.ref b :: argsL).toArray v B ∧
      ∀ target, Steps p.tables e below (B.U.setTop { g with pc := g.pc + 3, stack := v.toList ++ rest }) target → Steps p.tables e below (T.setTop g) target) ∨
    (∃ (q : Addr) (vm₁ : Vm) (B : Pt), s.WarmedH vm₁ ∧ Stand p l e R s m args below meth c B.U B.locs B.cells B.slots ∧ PostX ⟨T.setVm vm₁, locs, cells, slots⟩ (Value.ref b :: argsL).toArray q B ∧
      Steps p.tables e below (T.setTop g) ((B.U.setTop { g with stack := rest }).pushFrame (.throwing q))) := by
  obtain ⟨mk, methM, hnamed, hmethM, hstM, habM⟩ := Cond.instanceMethod_spec hinst
  obtain ⟨methM', cM, hmethM', -, -, -, -, -, -, hsigM⟩ := Cond.code_spec hnamed hcode
  cases hmethM.symm.trans hmethM'
  obtain ⟨c2, r2, m2, q1, q2, q3, q4, kP, hkP, hkPi⟩ := Cond.selects_spec hsel
  cases hcls.symm.trans q1
  cases (State.methodFound?_of_named hnamed hy).symm.trans q2
  cases hnamed.symm.trans q3
  have hselP : selectMethod e.platform s.vm cellB.cls mk = .method mk := by rw [Launch.admits_selectMethod X.admits]; exact q4
  obtain ⟨vm₁, X₁, hstep₁⟩ := X.invokevirtual hexec hown hlink hnamed hmethM hstM hkP hkPi hy (a := b) (cell := cellB) hcell
    (fun z h => by rw [h] at hobj; cases hobj) hselP hmethM habM hkP hkPi (g := g) hg (argsL := argsL) (rest := rest) (hlen _ hsigM) hstack hdg
  rcases hK m meth c ⟨T.setVm vm₁, locs, cells, slots⟩ { g with stack := rest } (.invokevirtual index) mk (Value.ref b :: argsL).toArray X₁ hg hsize hdg hW (X₁.named hnamed) (hpre vm₁ X₁.warmed) with ⟨v, B, X', hpost, hsteps⟩ | ⟨q, B, X', hpost, hsteps⟩
  · exact Or.inl ⟨v, vm₁, B, X₁.warmed, X', hpost, fun target h => hstep₁ _ fun acts => by rw [doInvoke_state]; exact hsteps.trans h⟩
  · exact Or.inr ⟨q, vm₁, B, X₁.warmed, X', hpost, hstep₁ _ fun acts => by rw [doInvoke_state]; exact hsteps⟩
theorem vx_callS (X : Stand p l e R s m args below meth c T locs cells slots) (hexec : p.tables.exec = Jvm.exec) {own : String} {index : Nat} {y : MethodName} {bytes : ByteArray} {maxL : Nat} {ret : Option FieldType}
    (hown : s.vm.findClass own = some m.cls) (hlink : (Cond.methodLink own index y).before args s = true) (hstat : (Cond.static y).before args s = true) (hinit : (Cond.initialized y.cls).before args s = true)
    (hcode : (Cond.code y bytes maxL ret).before args s = true) (hy : y.cls ≠ "java/lang/invoke/MethodHandle" ∧ y.cls ≠ "java/lang/invoke/VarHandle")
    {W9 : Nat} {Pre : Pt → Array Value → Prop} {Post : Pt → Array Value → Option Value → Pt → Prop} {PostX : Pt → Array Value → Addr → Pt → Prop} (hK : vx_Back l R p e below s args y 3 W9 Pre Post PostX)
    {g : JFrame} (hg : g.method = m) (hsize : g.locals.size = c.maxLocals) {argsL rest : List Value} (hlen : ∀ sig, parseMethodDescriptor y.desc = some sig → argsL.length = sig.parameters.length)
    (hstack : g.stack = argsL.reverse ++ rest) (hW : 2 * g.monitorRoom + (rest.map fun v => v.category).sum ≤ W9) (hdg : decode c.code g.pc = .ok (.invokestatic index, 3))
    (hpre : ∀ vm₁, s.WarmedH vm₁ → Pre ⟨T.setVm vm₁, locs, cells, slots⟩ argsL.toArray) :
    (∃ (v : Option Value) (vm₁ : Vm) (B : Pt), s.WarmedH vm₁ ∧ Stand p l e R s m args below meth c B.U B.locs B.cells B.slots ∧ Post ⟨T.setVm vm₁, locs, cells, slots⟩ argsL.toArray v B ∧
      ∀ target, Steps p.tables e below (B.U.setTop { g with pc := g.pc + 3, stack := v.toList ++ rest }) target → Steps p.tables e below (T.setTop g) target) ∨
    (∃ (q : Addr) (vm₁ : Vm) (B : Pt), s.WarmedH vm₁ ∧ Stand p l e R s m args below meth c B.U B.locs B.cells B.slots ∧ PostX ⟨T.setVm vm₁, locs, cells, slots⟩ argsL.toArray q B ∧
      Steps p.tables e below (T.setTop g) ((B.U.setTop { g with stack := rest }).pushFrame (.throwing q))) := by
  obtain ⟨mk, hnamed⟩ := Cond.code_named hcode
  obtain ⟨methM, cM, hmethM, -, -, -, -, -, -, hsigM⟩ := Cond.code_spec hnamed hcode
  have hstatic : methM.isStatic = true := Cond.static_spec hnamed hmethM hstat
  obtain ⟨kP, hkP, -⟩ := className_of_methodNamed hnamed
  have hinitP : kP.init = .initialized := Cond.initialized_spec (findClass_of_methodNamed hnamed) hkP hinit
  obtain ⟨vm₁, X₁, hstep₁⟩ := X.invokestatic hexec hown hlink hnamed hmethM hstatic hkP hinitP hy (g := g) hg (argsL := argsL) (rest := rest) (hlen _ hsigM) hstack hdg
  rcases hK m meth c ⟨T.setVm vm₁, locs, cells, slots⟩ { g with stack := rest } (.invokestatic index) mk argsL.toArray X₁ hg hsize hdg hW (X₁.named hnamed) (hpre vm₁ X₁.warmed) with ⟨v, B, X', hpost, hsteps⟩ | ⟨q, B, X', hpost, hsteps⟩
  · exact Or.inl ⟨v, vm₁, B, X₁.warmed, X', hpost, fun target h => hstep₁ _ fun acts => by rw [doInvoke_state]; exact hsteps.trans h⟩
  · exact Or.inr ⟨q, vm₁, B, X₁.warmed, X', hpost, hstep₁ _ fun acts => by rw [doInvoke_state]; exact hsteps⟩
end Calls
theorem vx_cls {s : State} {T : State} {vm₁ : Vm} {E : String} {k : ClassId} (hW : s.WarmedH vm₁) (h : (T.setVm vm₁).vm.findClass E = some k) : s.vm.findClass E = some k := by
  have h1 : vm₁.findClass E = some k := h
  rw [hW.alike.findClass] at h1
  exact h1
/-- the method's frame g, with q thrown over it -/
def vx_W (p : Program) (l : Launch) (e : Env) (R : Room) (s : State) (m : MethodId) (args : Array Value) (below : List Frame) (meth : Method) (c : Code) (H : Heap) (locs : List Loc) (cells slots : Nat) (Q : State → Prop) (g : JFrame) (q : Addr) : Prop :=
  ∀ T : State, T.heap = H → Stand p l e R s m args below meth c T locs cells slots → ∃ t, Steps p.tables e below ((T.setTop g).pushFrame (.throwing q)) t ∧ Q t
def vx_Run (p : Program) (l : Launch) (e : Env) (R : Room) (s : State) (m : MethodId) (args : Array Value) (below : List Frame) (meth : Method) (c : Code) (H : Heap) (locs : List Loc) (cells slots mc ms : Nat) (g : JFrame) (rest : List Value) (Qa : State → Outcome → State → Prop) (XC : String → State → State → Prop) (free : Addr → Prop) : Prop :=
  ∀ T : State, T.heap = H → Stand p l e R s m args below meth c T locs cells slots →
    (∃ (v : Option Value) (st₀ t T' : State) (L : List Loc), st₀.heap = H ∧ Stand p l e R s m args below meth c T' (locs ++ L) (cells + mc) (slots + ms) ∧ (∀ q ∈ L, free q.base) ∧ T'.heap = t.heap ∧ T'.vm = t.vm ∧ Qa st₀ (.returned v) t ∧
      Goes p e below T g T' { g with pc := g.pc + 3, stack := v.toList ++ rest }) ∨
    (∃ (q : Addr) (st₀ t T' : State) (L : List Loc) (E : String) (ce : Cell), st₀.heap = H ∧ Stand p l e R s m args below meth c T' (locs ++ L) (cells + mc) (slots + ms) ∧ (∀ z ∈ L, free z.base) ∧ T'.heap = t.heap ∧ T'.vm = t.vm ∧ XC E st₀ t ∧ t.heap[q]? = some ce ∧ ce.vm = .none ∧ s.vm.findClass E = some ce.cls ∧
      Steps p.tables e below (T.setTop g) ((T'.setTop { g with stack := rest }).pushFrame (.throwing q)))
def vx_X {S : Type} (px : S → Prop) (B : String → S → State → Prop) (A : Nat → Prop) : String → State → State → Prop := fun E st t => ∃ u : S, px u ∧ B E u t ∧ va_F A st t
section Runs
variable {p : Program} {l : Launch} {e : Env} {R : Room} {s : State} {m : MethodId} {args : Array Value} {below : List Frame} {meth : Method} {c : Code} {H : Heap} {locs : List Loc} {cells slots : Nat}
variable {y : MethodName} {bytes cc : ByteArray} {maxL nL mc ms n index : Nat} {ret : Option FieldType} {ws : List Cond} {rm : Room} {Pc : Array Value → State → Prop} {Qc : Array Value → State → Outcome → State → Prop} {XC : String → State → State → Prop} {free : Addr → Prop} {Ts : List Cond} {own C : String} {b : Addr} {As rest : List Value} {g : JFrame}
theorem vx_callBack (cb : CallB R s args own index y bytes maxL ret ws rm mc ms n) (hM : vx_Met l y ws rm Pc Qc XC mc ms free) (hbl : FrameBlind Pc) : vx_Back l R p e below s args y 3 8 (PreOf R mc ms Pc) (PostOf Qc mc ms free) (vx_Post XC mc ms free) := by
  obtain ⟨hrc, hrs, hfr, hlo, hws, hcw, -, hini, -⟩ := cb
  exact vx_back (bytes := bytes) (maxL := maxL) (ret := ret) hM hbl hrc hrs hfr hlo hws hcw (fun a' U hW => word_at hW (Or.inl (by first | rfl | simp [Cond.onTables, Cond.keeps, Cond.steady])) hini)
theorem vx_runV (S : CallFix p m c cc nL s args Ts own) (hM : vx_Met l y ws rm Pc Qc XC mc ms free) (cw : CallW R s args own C index y bytes maxL ret ws rm mc ms n) (hp : PreV s H C b Pc As)
    (hg : g.method = m) (hn : As.length = n) (hsize : g.locals.size = nL) (hstack : g.stack = As.reverse ++ .ref b :: rest) (hW : 2 * g.monitorRoom + (rest.map fun v => v.category).sum ≤ 8) (hdg : decode cc g.pc = .ok (.invokevirtual index, 3)) (hf : cells + mc ≤ R.cells ∧ slots + ms ≤ R.slots) :
    vx_Run p l e R s m args below meth c H locs cells slots mc ms g rest (Qc (Value.ref b :: As).toArray) XC free := by
  have hK : vx_Back l R p e below s args y 3 8 (PreOf R mc ms Pc) (PostOf Qc mc ms free) (vx_Post XC mc ms free) := vx_callBack cw.1 hM hp.1
  obtain ⟨⟨-, -, -, -, -, -, hcode, -, hy, hlen, hl⟩, hin, hse⟩ := cw
  obtain ⟨hx, hb, hml, ho, -⟩ := S
  obtain ⟨-, ⟨cellB, hcB, hoB, hclB⟩, hPc⟩ := hp
  intro T hT X
  rcases vx_callV X hx (C := C) (bytes := bytes) (maxL := maxL) (ret := ret) ho hl hin hse hcode hy hK (by rw [hT]; exact hcB) hoB hclB hg (hsize.trans hml.symm) (argsL := As) (rest := rest) (fun sig h => hn.trans (hlen sig h)) hstack hW (by rw [hb]; exact hdg)
    (fun vm₁ hW₁ => ⟨hf.1, hf.2, hPc (T.setVm vm₁) hT hW₁⟩) with ⟨v, vm₁, ⟨U', l2, c2, s2⟩, hW₁, X', ⟨g', mk, t, L, e1, e2, hq, h1, hL, h2, h3⟩, st⟩ | ⟨q, vm₁, ⟨U', l2, c2, s2⟩, hW₁, X', ⟨g', mk, t, L, E, ce, e1, e2, hq, hce, hcv, hcl, h1, hL, h2, h3⟩, st⟩
  · dsimp only [Pt.U, Pt.locs, Pt.cells, Pt.slots] at X' e1 e2 h1 h2 h3 st
    subst h1; subst h2; subst h3
    exact Or.inl ⟨v, (T.setVm vm₁).calling g' mk (Value.ref b :: As).toArray, t, U', L, hT, X', hL, e1, e2, hq, st⟩
  · dsimp only [Pt.U, Pt.locs, Pt.cells, Pt.slots] at X' e1 e2 h1 h2 h3 st hcl
    subst h1; subst h2; subst h3
    exact Or.inr ⟨q, (T.setVm vm₁).calling g' mk (Value.ref b :: As).toArray, t, U', L, E, ce, hT, X', hL, e1, e2, hq, hce, hcv, vx_cls hW₁ hcl, st⟩
theorem vx_runS (S : CallFix p m c cc nL s args Ts own) (hM : vx_Met l y ws rm Pc Qc XC mc ms free) (cw : CallB R s args own index y bytes maxL ret ws rm mc ms n ∧ (Cond.static y).before args s = true) (hp : PreS s H Pc As)
    (hg : g.method = m) (hn : As.length = n) (hsize : g.locals.size = nL) (hstack : g.stack = As.reverse ++ rest) (hW : 2 * g.monitorRoom + (rest.map fun v => v.category).sum ≤ 8) (hdg : decode cc g.pc = .ok (.invokestatic index, 3)) (hf : cells + mc ≤ R.cells ∧ slots + ms ≤ R.slots) :
    vx_Run p l e R s m args below meth c H locs cells slots mc ms g rest (Qc As.toArray) XC free := by
  have hK : vx_Back l R p e below s args y 3 8 (PreOf R mc ms Pc) (PostOf Qc mc ms free) (vx_Post XC mc ms free) := vx_callBack cw.1 hM hp.1
  obtain ⟨⟨-, -, -, -, -, -, hcode, hini, hy, hlen, hl⟩, hstt⟩ := cw
  obtain ⟨hx, hb, hml, ho, -⟩ := S
  intro T hT X
  rcases vx_callS X hx (bytes := bytes) (maxL := maxL) (ret := ret) ho hl hstt hini hcode hy hK hg (hsize.trans hml.symm) (argsL := As) (rest := rest) (fun sig h => hn.trans (hlen sig h)) hstack hW (by rw [hb]; exact hdg)
    (fun vm₁ hW₁ => ⟨hf.1, hf.2, hp.2 (T.setVm vm₁) hT hW₁⟩) with ⟨v, vm₁, ⟨U', l2, c2, s2⟩, hW₁, X', ⟨g', mk, t, L, e1, e2, hq, h1, hL, h2, h3⟩, st⟩ | ⟨q, vm₁, ⟨U', l2, c2, s2⟩, hW₁, X', ⟨g', mk, t, L, E, ce, e1, e2, hq, hce, hcv, hcl, h1, hL, h2, h3⟩, st⟩
  · dsimp only [Pt.U, Pt.locs, Pt.cells, Pt.slots] at X' e1 e2 h1 h2 h3 st
    subst h1; subst h2; subst h3
    exact Or.inl ⟨v, (T.setVm vm₁).calling g' mk As.toArray, t, U', L, hT, X', hL, e1, e2, hq, st⟩
  · dsimp only [Pt.U, Pt.locs, Pt.cells, Pt.slots] at X' e1 e2 h1 h2 h3 st hcl
    subst h1; subst h2; subst h3
    exact Or.inr ⟨q, (T.setVm vm₁).calling g' mk As.toArray, t, U', L, E, ce, hT, X', hL, e1, e2, hq, hce, hcv, vx_cls hW₁ hcl, st⟩
end Runs
section Rows
variable {p : Program} {l : Launch} {e : Env} {R : Room} {s : State} {m : MethodId} {args : Array Value} {below : List Frame} {meth : Method} {c : Code} {H : Heap} {locs : List Loc} {cells slots : Nat} {Q : State → Prop}
variable {mc ms : Nat} {free : Addr → Prop} {A0 A1 : Nat → Prop} {H0 : Heap} {a : Array Value} {pc : Nat} {ls : Array Slot} {st0 rest : List Value}
theorem vx_keep {st₀ t T' : State} {L : List Loc} (h0 : st₀.heap = H) (e1 : T'.heap = t.heap) (hS : va_S A0 H0 H locs) (hA : ∀ q, q < H.size → A1 q → A0 q) (hf : ∀ q, free q → A0 q) (hL : ∀ q ∈ L, free q.base) (hF : va_F A1 st₀ t) :
    H.size ≤ T'.heap.size ∧ (∀ q : Nat, q < H.size → ¬ A1 q → T'.heap[q]? = H[q]?) ∧ va_S A0 H0 T'.heap (locs ++ L) := by
  obtain ⟨hz, hk⟩ := hF
  rw [h0] at hz hk
  exact ⟨by rw [e1]; exact hz, fun q h1 h2 => by rw [e1]; exact hk q h1 h2,
    ⟨Nat.le_trans hS.1 (by rw [e1]; exact hz), fun q h1 h2 => by rw [e1, hk q (Nat.lt_of_lt_of_le h1 hS.1) (fun z => h2 (hA q (Nat.lt_of_lt_of_le h1 hS.1) z))]; exact hS.2.1 q h1 h2, fun q hq => by
      rcases List.mem_append.mp hq with h | h
      · exact hS.2.2 q h
      · exact hf _ (hL q h)⟩⟩
theorem vx_calli {S SX : Type} {post : Int32 → S → Prop} {px : SX → Prop} {B : S → State → Prop} {BX : String → SX → State → Prop} {AX : Nat → Prop} (hr : vx_Run p l e R s m args below meth c H locs cells slots mc ms (F0 m pc ls st0) rest (va_Qi post B A1 a) (vx_X px BX AX) free) (hS : va_S A0 H0 H locs) (hA : ∀ q, q < H.size → A1 q → A0 q) (hf : ∀ q, free q → A0 q) (hAX : ∀ q, q < H.size → AX q → A0 q)
    (kx : ∀ (E : String) (ce : Cell) (q9 : Addr) (u : SX) (t : State) (H1 : Heap) (locs1 : List Loc), t.heap = H1 → s.vm.Alike t.vm → px u → BX E u t → H.size ≤ H1.size → (∀ q : Nat, q < H.size → ¬ AX q → H1[q]? = H[q]?) → va_S A0 H0 H1 locs1 → H1[q9]? = some ce → ce.vm = .none → s.vm.findClass E = some ce.cls → vx_W p l e R s m args below meth c H1 locs1 (cells + mc) (slots + ms) Q (F0 m pc ls rest) q9)
    (kk : ∀ (r : Int32) (u : S) (t : State) (H1 : Heap) (locs1 : List Loc), t.heap = H1 → s.vm.Alike t.vm → post r u → B u t → H.size ≤ H1.size → (∀ q : Nat, q < H.size → ¬ A1 q → H1[q]? = H[q]?) → va_S A0 H0 H1 locs1 → W p l e R s m args below meth c H1 locs1 (cells + mc) (slots + ms) Q (F0 m (pc + 3) ls (.int r :: rest))) : W p l e R s m args below meth c H locs cells slots Q (F0 m pc ls st0) := by
  intro T hT X
  rcases hr T hT X with ⟨v, st₀, t, T', L, h0, X', hL, e1, e2, ⟨⟨r, u, hv, hp, hb⟩, hF⟩, st⟩ | ⟨q, st₀, t, T', L, E, ce, h0, X', hL, e1, e2, ⟨u, hp, hb, hF⟩, hce, hcv, hcl, st⟩
  · cases hv
    obtain ⟨k1, k2, k3⟩ := vx_keep h0 e1 hS hA hf hL hF
    obtain ⟨t2, a1, b1⟩ := kk r u t T'.heap (locs ++ L) e1.symm (by rw [← e2]; exact X'.warmed.alike) hp hb k1 k2 k3 T' rfl X'
    exact ⟨t2, st t2 a1, b1⟩
  · obtain ⟨k1, k2, k3⟩ := vx_keep h0 e1 hS hAX hf hL hF
    obtain ⟨t2, a1, b1⟩ := kx E ce q u t T'.heap (locs ++ L) e1.symm (by rw [← e2]; exact X'.warmed.alike) hp hb k1 k2 k3 (by rw [e1]; exact hce) hcv hcl T' rfl X'
    exact ⟨t2, st.trans a1, b1⟩
theorem vx_calll {S SX : Type} {post : Int64 → S → Prop} {px : SX → Prop} {B : S → State → Prop} {BX : String → SX → State → Prop} {AX : Nat → Prop} (hr : vx_Run p l e R s m args below meth c H locs cells slots mc ms (F0 m pc ls st0) rest (va_Ql post B A1 a) (vx_X px BX AX) free) (hS : va_S A0 H0 H locs) (hA : ∀ q, q < H.size → A1 q → A0 q) (hf : ∀ q, free q → A0 q) (hAX : ∀ q, q < H.size → AX q → A0 q)
    (kx : ∀ (E : String) (ce : Cell) (q9 : Addr) (u : SX) (t : State) (H1 : Heap) (locs1 : List Loc), t.heap = H1 → s.vm.Alike t.vm → px u → BX E u t → H.size ≤ H1.size → (∀ q : Nat, q < H.size → ¬ AX q → H1[q]? = H[q]?) → va_S A0 H0 H1 locs1 → H1[q9]? = some ce → ce.vm = .none → s.vm.findClass E = some ce.cls → vx_W p l e R s m args below meth c H1 locs1 (cells + mc) (slots + ms) Q (F0 m pc ls rest) q9)
    (kk : ∀ (r : Int64) (u : S) (t : State) (H1 : Heap) (locs1 : List Loc), t.heap = H1 → s.vm.Alike t.vm → post r u → B u t → H.size ≤ H1.size → (∀ q : Nat, q < H.size → ¬ A1 q → H1[q]? = H[q]?) → va_S A0 H0 H1 locs1 → W p l e R s m args below meth c H1 locs1 (cells + mc) (slots + ms) Q (F0 m (pc + 3) ls (.long r :: rest))) : W p l e R s m args below meth c H locs cells slots Q (F0 m pc ls st0) := by
  intro T hT X
  rcases hr T hT X with ⟨v, st₀, t, T', L, h0, X', hL, e1, e2, ⟨⟨r, u, hv, hp, hb⟩, hF⟩, st⟩ | ⟨q, st₀, t, T', L, E, ce, h0, X', hL, e1, e2, ⟨u, hp, hb, hF⟩, hce, hcv, hcl, st⟩
  · cases hv
    obtain ⟨k1, k2, k3⟩ := vx_keep h0 e1 hS hA hf hL hF
    obtain ⟨t2, a1, b1⟩ := kk r u t T'.heap (locs ++ L) e1.symm (by rw [← e2]; exact X'.warmed.alike) hp hb k1 k2 k3 T' rfl X'
    exact ⟨t2, st t2 a1, b1⟩
  · obtain ⟨k1, k2, k3⟩ := vx_keep h0 e1 hS hAX hf hL hF
    obtain ⟨t2, a1, b1⟩ := kx E ce q u t T'.heap (locs ++ L) e1.symm (by rw [← e2]; exact X'.warmed.alike) hp hb k1 k2 k3 (by rw [e1]; exact hce) hcv hcl T' rfl X'
    exact ⟨t2, st.trans a1, b1⟩
theorem vx_callf {S SX : Type} {post : UInt32 → S → Prop} {px : SX → Prop} {B : S → State → Prop} {BX : String → SX → State → Prop} {AX : Nat → Prop} (hr : vx_Run p l e R s m args below meth c H locs cells slots mc ms (F0 m pc ls st0) rest (va_Qf post B A1 a) (vx_X px BX AX) free) (hS : va_S A0 H0 H locs) (hA : ∀ q, q < H.size → A1 q → A0 q) (hf : ∀ q, free q → A0 q) (hAX : ∀ q, q < H.size → AX q → A0 q)
    (kx : ∀ (E : String) (ce : Cell) (q9 : Addr) (u : SX) (t : State) (H1 : Heap) (locs1 : List Loc), t.heap = H1 → s.vm.Alike t.vm → px u → BX E u t → H.size ≤ H1.size → (∀ q : Nat, q < H.size → ¬ AX q → H1[q]? = H[q]?) → va_S A0 H0 H1 locs1 → H1[q9]? = some ce → ce.vm = .none → s.vm.findClass E = some ce.cls → vx_W p l e R s m args below meth c H1 locs1 (cells + mc) (slots + ms) Q (F0 m pc ls rest) q9)
    (kk : ∀ (r : UInt32) (u : S) (t : State) (H1 : Heap) (locs1 : List Loc), t.heap = H1 → s.vm.Alike t.vm → post r u → B u t → H.size ≤ H1.size → (∀ q : Nat, q < H.size → ¬ A1 q → H1[q]? = H[q]?) → va_S A0 H0 H1 locs1 → W p l e R s m args below meth c H1 locs1 (cells + mc) (slots + ms) Q (F0 m (pc + 3) ls (.float r :: rest))) : W p l e R s m args below meth c H locs cells slots Q (F0 m pc ls st0) := by
  intro T hT X
  rcases hr T hT X with ⟨v, st₀, t, T', L, h0, X', hL, e1, e2, ⟨⟨r, u, hv, hp, hb⟩, hF⟩, st⟩ | ⟨q, st₀, t, T', L, E, ce, h0, X', hL, e1, e2, ⟨u, hp, hb, hF⟩, hce, hcv, hcl, st⟩
  · cases hv
    obtain ⟨k1, k2, k3⟩ := vx_keep h0 e1 hS hA hf hL hF
    obtain ⟨t2, a1, b1⟩ := kk r u t T'.heap (locs ++ L) e1.symm (by rw [← e2]; exact X'.warmed.alike) hp hb k1 k2 k3 T' rfl X'
    exact ⟨t2, st t2 a1, b1⟩
  · obtain ⟨k1, k2, k3⟩ := vx_keep h0 e1 hS hAX hf hL hF
    obtain ⟨t2, a1, b1⟩ := kx E ce q u t T'.heap (locs ++ L) e1.symm (by rw [← e2]; exact X'.warmed.alike) hp hb k1 k2 k3 (by rw [e1]; exact hce) hcv hcl T' rfl X'
    exact ⟨t2, st.trans a1, b1⟩
theorem vx_calld {S SX : Type} {post : UInt64 → S → Prop} {px : SX → Prop} {B : S → State → Prop} {BX : String → SX → State → Prop} {AX : Nat → Prop} (hr : vx_Run p l e R s m args below meth c H locs cells slots mc ms (F0 m pc ls st0) rest (va_Qd post B A1 a) (vx_X px BX AX) free) (hS : va_S A0 H0 H locs) (hA : ∀ q, q < H.size → A1 q → A0 q) (hf : ∀ q, free q → A0 q) (hAX : ∀ q, q < H.size → AX q → A0 q)
    (kx : ∀ (E : String) (ce : Cell) (q9 : Addr) (u : SX) (t : State) (H1 : Heap) (locs1 : List Loc), t.heap = H1 → s.vm.Alike t.vm → px u → BX E u t → H.size ≤ H1.size → (∀ q : Nat, q < H.size → ¬ AX q → H1[q]? = H[q]?) → va_S A0 H0 H1 locs1 → H1[q9]? = some ce → ce.vm = .none → s.vm.findClass E = some ce.cls → vx_W p l e R s m args below meth c H1 locs1 (cells + mc) (slots + ms) Q (F0 m pc ls rest) q9)
    (kk : ∀ (r : UInt64) (u : S) (t : State) (H1 : Heap) (locs1 : List Loc), t.heap = H1 → s.vm.Alike t.vm → post r u → B u t → H.size ≤ H1.size → (∀ q : Nat, q < H.size → ¬ A1 q → H1[q]? = H[q]?) → va_S A0 H0 H1 locs1 → W p l e R s m args below meth c H1 locs1 (cells + mc) (slots + ms) Q (F0 m (pc + 3) ls (.double r :: rest))) : W p l e R s m args below meth c H locs cells slots Q (F0 m pc ls st0) := by
  intro T hT X
  rcases hr T hT X with ⟨v, st₀, t, T', L, h0, X', hL, e1, e2, ⟨⟨r, u, hv, hp, hb⟩, hF⟩, st⟩ | ⟨q, st₀, t, T', L, E, ce, h0, X', hL, e1, e2, ⟨u, hp, hb, hF⟩, hce, hcv, hcl, st⟩
  · cases hv
    obtain ⟨k1, k2, k3⟩ := vx_keep h0 e1 hS hA hf hL hF
    obtain ⟨t2, a1, b1⟩ := kk r u t T'.heap (locs ++ L) e1.symm (by rw [← e2]; exact X'.warmed.alike) hp hb k1 k2 k3 T' rfl X'
    exact ⟨t2, st t2 a1, b1⟩
  · obtain ⟨k1, k2, k3⟩ := vx_keep h0 e1 hS hAX hf hL hF
    obtain ⟨t2, a1, b1⟩ := kx E ce q u t T'.heap (locs ++ L) e1.symm (by rw [← e2]; exact X'.warmed.alike) hp hb k1 k2 k3 (by rw [e1]; exact hce) hcv hcl T' rfl X'
    exact ⟨t2, st.trans a1, b1⟩
theorem vx_callv {S SX : Type} {post : S → Prop} {px : SX → Prop} {B : S → State → Prop} {BX : String → SX → State → Prop} {AX : Nat → Prop} (hr : vx_Run p l e R s m args below meth c H locs cells slots mc ms (F0 m pc ls st0) rest (va_Qv post B A1 a) (vx_X px BX AX) free) (hS : va_S A0 H0 H locs) (hA : ∀ q, q < H.size → A1 q → A0 q) (hf : ∀ q, free q → A0 q) (hAX : ∀ q, q < H.size → AX q → A0 q)
    (kx : ∀ (E : String) (ce : Cell) (q9 : Addr) (u : SX) (t : State) (H1 : Heap) (locs1 : List Loc), t.heap = H1 → s.vm.Alike t.vm → px u → BX E u t → H.size ≤ H1.size → (∀ q : Nat, q < H.size → ¬ AX q → H1[q]? = H[q]?) → va_S A0 H0 H1 locs1 → H1[q9]? = some ce → ce.vm = .none → s.vm.findClass E = some ce.cls → vx_W p l e R s m args below meth c H1 locs1 (cells + mc) (slots + ms) Q (F0 m pc ls rest) q9)
    (kk : ∀ (u : S) (t : State) (H1 : Heap) (locs1 : List Loc), t.heap = H1 → s.vm.Alike t.vm → post u → B u t → H.size ≤ H1.size → (∀ q : Nat, q < H.size → ¬ A1 q → H1[q]? = H[q]?) → va_S A0 H0 H1 locs1 → W p l e R s m args below meth c H1 locs1 (cells + mc) (slots + ms) Q (F0 m (pc + 3) ls (rest))) : W p l e R s m args below meth c H locs cells slots Q (F0 m pc ls st0) := by
  intro T hT X
  rcases hr T hT X with ⟨v, st₀, t, T', L, h0, X', hL, e1, e2, ⟨⟨u, hv, hp, hb⟩, hF⟩, st⟩ | ⟨q, st₀, t, T', L, E, ce, h0, X', hL, e1, e2, ⟨u, hp, hb, hF⟩, hce, hcv, hcl, st⟩
  · cases hv
    obtain ⟨k1, k2, k3⟩ := vx_keep h0 e1 hS hA hf hL hF
    obtain ⟨t2, a1, b1⟩ := kk u t T'.heap (locs ++ L) e1.symm (by rw [← e2]; exact X'.warmed.alike) hp hb k1 k2 k3 T' rfl X'
    exact ⟨t2, st t2 a1, b1⟩
  · obtain ⟨k1, k2, k3⟩ := vx_keep h0 e1 hS hAX hf hL hF
    obtain ⟨t2, a1, b1⟩ := kx E ce q u t T'.heap (locs ++ L) e1.symm (by rw [← e2]; exact X'.warmed.alike) hp hb k1 k2 k3 (by rw [e1]; exact hce) hcv hcl T' rfl X'
    exact ⟨t2, st.trans a1, b1⟩
/-- caught by the row x of this method's table; the rows ahead don't take it -/
theorem vx_catch {own name : String} {E : String} {ce : Cell} {q : Addr} (hown : s.vm.findClass own = some m.cls) (pre : List ExceptionTableEntry) (x : ExceptionTableEntry) (suf : List ExceptionTableEntry) (hsplit : c.exceptionTable.toList = pre ++ x :: suf)
    (hpass : ∀ z ∈ pre, covers z pc = false ∨ (z.catchType ≠ 0 ∧ ∃ nm : String, (Cond.classLink own z.catchType nm).before args s = true ∧ va_Nc E nm s)) (hx : covers x pc = true) (h0 : x.catchType ≠ 0)
    (hlink : (Cond.classLink own x.catchType name).before args s = true) (hcast : (Cond.castable E name).before args s = true) (hcell : H[q]? = some ce) (hv : ce.vm = .none) (hcl : s.vm.findClass E = some ce.cls)
    (kk : W p l e R s m args below meth c H locs cells slots Q (F0 m x.handlerPc ls [.ref q])) : vx_W p l e R s m args below meth c H locs cells slots Q (F0 m pc ls rest) q := by
  intro T hT X
  have hpl : e.platform.magicAccessors = ({} : Platform).magicAccessors := by rw [X.admits.platform]
  obtain ⟨c3, c4, hc3, hc4, hasg⟩ := Cond.castable_spec hcast
  cases Option.some.inj (hc3.symm.trans hcl)
  obtain ⟨c5, hc5, hcl5⟩ := Cond.classLink_spec hown hlink e.platform hpl
  cases Option.some.inj (hc4.symm.trans hc5)
  obtain ⟨vm', X', st⟩ := X.thenCaughtThrough q (g := F0 m pc ls rest) rfl (Steps.refl _) (by rw [hT]; exact hcell) (by rw [hv]; rfl) (by obtain ⟨k9, h9, -⟩ := Vm.findClass_spec hcl; exact ⟨k9, h9⟩) pre x suf hsplit
    (fun z hz => by
      rcases hpass z hz with h | ⟨hz0, nm, hl1, hn1⟩
      · exact Or.inl h
      · obtain ⟨c6, hc6, hcl6⟩ := Cond.classLink_spec hown hl1 e.platform hpl
        obtain ⟨a8, b8, h1, h2, h3⟩ := hn1
        cases Option.some.inj (h1.symm.trans hcl)
        cases Option.some.inj (h2.symm.trans hc6)
        exact Or.inr ⟨hz0, _, hcl6, h3⟩) hx (Or.inr ⟨h0, c4, hcl5, hasg⟩)
  obtain ⟨t, a1, b1⟩ := kk (T.setVm vm') hT X'
  exact ⟨t, st.trans a1, b1⟩
end Rows
section Ends
variable {p : Program} {l : Launch} {e : Env} {R : Room} {s : State} {m : MethodId} {args : Array Value} {below : List Frame} {meth : Method} {c : Code} {H : Heap} {locs : List Loc} {cells slots : Nat} {Q : State → Prop}
variable {mc ms : Nat} {free : Addr → Prop} {A0 A1 : Nat → Prop} {H0 : Heap} {a : Array Value} {ls : Array Slot} {st0 rest : List Value}
variable {Qc : Array Value → State → Outcome → State → Prop} {XC : String → State → State → Prop}
/-- what a body that may throw owes at its end -/
def vx_MQ (below : List Frame) (Qc : Array Value → State → Outcome → State → Prop) (XC : String → State → State → Prop) (a : Array Value) (s : State) (mc ms : Nat) (free : Addr → Prop) : State → Prop := fun t =>
  ∃ o, t.status = .running ∧ Ended t below o ∧ vx_Q Qc XC mc ms free a s o t
theorem vx_ret {g : JFrame} {mc ms : Nat} (k : W p l e R s m args below meth c H locs cells slots (MQ below Qc args s mc ms free) g) : W p l e R s m args below meth c H locs cells slots (vx_MQ below Qc XC args s mc ms free) g := by
  intro T hT X
  obtain ⟨t, a1, o, b1, b2, b3, b4⟩ := k T hT X
  exact ⟨t, a1, o, b1, b2, Or.inl ⟨b3, b4⟩⟩
/-- not caught here: it goes on to the caller -/
theorem vx_widen {g : JFrame} {q : Addr} {k n : Nat} (h1 : cells ≤ k) (h2 : slots ≤ n) (kk : vx_W p l e R s m args below meth c H locs k n Q g q) : vx_W p l e R s m args below meth c H locs cells slots Q g q := fun T hT X => kk T hT (stand_widen X h1 h2)
theorem vx_out {pc : Nat} {E : String} {ce : Cell} {q : Addr} {mc ms : Nat} (hout : ∀ x ∈ c.exceptionTable.toList, covers x pc = false) (hlocks : meth.locks = false) (hcell : H[q]? = some ce) (hv : ce.vm = .none) (hcl : s.vm.findClass E = some ce.cls)
    (hx : ∀ t : State, t.heap = H → s.vm.Alike t.vm → XC E s t) (hf : ∀ z ∈ locs, free z.base) (hc : cells ≤ mc) (hs : slots ≤ ms) :
    vx_W p l e R s m args below meth c H locs cells slots (vx_MQ below Qc XC args s mc ms free) (F0 m pc ls rest) q := by
  intro T hT X
  obtain ⟨st1, hrun, hend, hW, hsm⟩ := X.leaveThrown q (g := F0 m pc ls rest) rfl rfl rfl hout hlocks
  have hcell9 : (T.setFrames (.throwing q :: below)).heap[q]? = some ce := by
    show T.heap[q]? = some ce
    rw [hT]; exact hcell
  exact ⟨_, st1, .threw q, hrun, hend, Or.inr ⟨q, rfl, E, ce, locs, hx _ hT hW.alike, hcell9, hv, hcl, hW, hsm.mono hc hs, hf⟩⟩
theorem vx_frame {U : State} {k n : Nat} (h : s.sameButNew ({ U with vm := s.vm } : State) locs k n) : s.heap.size ≤ U.heap.size ∧ ∀ q : Nat, q < s.heap.size → (∀ z ∈ locs, z.base ≠ q) → U.heap[q]? = s.heap[q]? := by
  obtain ⟨-, h2, -, -, -, h6⟩ := h
  refine ⟨h2, fun q hq hz => ?_⟩
  obtain ⟨c9, e1, e2, e3, e4⟩ := h6 q _ (Array.getElem?_eq_getElem hq)
  have hs : c9.slots = (s.heap[q]).slots := Array.ext_getElem? fun i => e4 i fun hm => hz _ hm rfl
  have h9 : c9 = s.heap[q] := by
    rw [hs] at e2
    exact e2
  have e5 : U.heap[q]? = some c9 := e1
  rw [e5, h9, Array.getElem?_eq_getElem hq]
/-- the words of a throw but the four that speak of the heap -/
def vx_no (w : Cond) : Bool := decide (w ≠ .isRef (.static Bundle.tN "UNASSIGNED_STACK" Bundle.steD)) && decide (w ≠ .isRef (.static Bundle.tN "SUPPRESSED_SENTINEL" Bundle.listD)) && decide (w ≠ .laysStatic Bundle.tN "UNASSIGNED_STACK" Bundle.steD) && decide (w ≠ .laysStatic Bundle.tN "SUPPRESSED_SENTINEL" Bundle.listD)
def vx_at0 (own : String) (ic : Nat) (X : String) (names : List String) : List Cond := (Bundle.ownAtoms0 own ic X names).filter vx_no
def vx_atS (own : String) (ic : Nat) (X : String) (names : List String) : List Cond := (Bundle.ownAtoms own ic X names).filter vx_no
/-- a word that the tables alone decide, or a good one -/
def vx_ot (w : Cond) : Bool := w.onTables || goodWord w
theorem vx_ot_at {args a' : Array Value} {s U : State} {w : Cond} (hW : s.WarmedH U.vm) (hvm : s.vm = U.vm) (hg : vx_ot w = true) (h : w.before args s = true) : w.before a' U = true := by
  simp only [vx_ot, Bool.or_eq_true] at hg
  rcases hg with hg | hg
  · exact va_tabs hg hvm h
  · exact word_at hW (good_of_word hg) h
/-- a list's words: the good ones out of the method's own list, the others by premises of their own -/
theorem vx_hat {args : Array Value} {s : State} {L B : List Cond} (h1 : ∀ w ∈ L.filter goodWord, w.before args s = true) (h2 : ∀ w ∈ L.filter (fun w => !goodWord w), w ∈ B) (h3 : ∀ w ∈ B, w.before args s = true) : ∀ w ∈ L, w.before args s = true := by
  intro w hw
  by_cases g : goodWord w = true
  · exact h1 w (List.mem_filter.mpr ⟨hw, g⟩)
  · refine h3 w (h2 w (List.mem_filter.mpr ⟨hw, ?_⟩))
    show (!goodWord w) = true
    cases hgw : goodWord w
    · rfl
    · exact absurd hgw g
theorem vx_c {args : Array Value} {s : State} {w : Cond} {B : List Cond} (h : w.before args s = true) (t : ∀ w ∈ B, w.before args s = true) : ∀ w' ∈ w :: B, w'.before args s = true := fun w' h' => (List.mem_cons.mp h').elim (fun e => by rw [e]; exact h) (t w')
theorem vx_n {args : Array Value} {s : State} : ∀ w ∈ ([] : List Cond), w.before args s = true := fun _ h => nomatch h
theorem vx_own {args : Array Value} {s : State} {L : List Cond} (h1 : ∀ w ∈ L.filter vx_no, w.before args s = true)
    (hU : (Cond.isRef (.static Bundle.tN "UNASSIGNED_STACK" Bundle.steD)).before args s = true) (hN : (Cond.isRef (.static Bundle.tN "SUPPRESSED_SENTINEL" Bundle.listD)).before args s = true)
    (lU : (Cond.laysStatic Bundle.tN "UNASSIGNED_STACK" Bundle.steD).before args s = true) (lN : (Cond.laysStatic Bundle.tN "SUPPRESSED_SENTINEL" Bundle.listD).before args s = true) : ∀ w ∈ L, w.before args s = true := by
  intro w hw
  by_cases e1 : w = .isRef (.static Bundle.tN "UNASSIGNED_STACK" Bundle.steD)
  · rw [e1]; exact hU
  · by_cases e2 : w = .isRef (.static Bundle.tN "SUPPRESSED_SENTINEL" Bundle.listD)
    · rw [e2]; exact hN
    · by_cases e3 : w = .laysStatic Bundle.tN "UNASSIGNED_STACK" Bundle.steD
      · rw [e3]; exact lU
      · by_cases e4 : w = .laysStatic Bundle.tN "SUPPRESSED_SENTINEL" Bundle.listD
        · rw [e4]; exact lN
        · exact h1 w (List.mem_filter.mpr ⟨hw, by unfold vx_no; rw [decide_eq_true e1, decide_eq_true e2, decide_eq_true e3, decide_eq_true e4]; rfl⟩)
/-- where a static field lies, its class's statics cell in H -/
def vx_L (C n d : String) (A : Nat → Prop) (U : State) (H : Heap) : Prop := ∃ (c : ClassId) (k : Class) (i : Nat) (f : Field) (a : Nat) (cell : Cell), U.vm.findClass C = some c ∧ U.fieldFound? C n d = some (c, k, i, f) ∧ f.isStatic = true ∧ k.statics = some a ∧ H[a]? = some cell ∧ cell.vm.isStatics = true ∧ cell.cls = c ∧ f.slot < cell.slots.size ∧ k.staticTypes[f.slot]? = some f.type ∧ ¬ A a
theorem vx_L.moved {C n d : String} {A : Nat → Prop} {u U : State} {H : Heap} (hvm : u.vm.Alike U.vm) (h : vx_L C n d A u H) : vx_L C n d A U H := by
  obtain ⟨c, k, i, f, a, cell, h1, h2, h3, h4, h5, h6, h7, h8, h9, h10⟩ := h
  obtain ⟨k', hi', he⟩ := State.fieldFound?_setVm hvm h2
  exact ⟨c, k', i, f, a, cell, by rw [hvm.findClass]; exact h1, hi', h3, by rw [he]; exact h4, h5, h6, h7, h8, by rw [he]; exact h9, h10⟩
theorem vx_L.kept {C n d : String} {A : Nat → Prop} {U : State} {H H1 : Heap} (h : vx_L C n d A U H) (hq : ∀ a : Nat, a < H.size → ¬ A a → H1[a]? = H[a]?) : vx_L C n d A U H1 := by
  obtain ⟨c, k, i, f, a, cell, h1, h2, h3, h4, h5, h6, h7, h8, h9, h10⟩ := h
  exact ⟨c, k, i, f, a, cell, h1, h2, h3, h4, by rw [hq a (Array.getElem?_eq_some_iff.mp h5).1 h10]; exact h5, h6, h7, h8, h9, h10⟩
theorem vx_L.narrow {C n d : String} {A B : Nat → Prop} {U : State} {H : Heap} (h : vx_L C n d A U H) (hAB : ∀ q, B q → A q) : vx_L C n d B U H := by
  obtain ⟨c, k, i, f, a, cell, h1, h2, h3, h4, h5, h6, h7, h8, h9, h10⟩ := h
  exact ⟨c, k, i, f, a, cell, h1, h2, h3, h4, h5, h6, h7, h8, h9, fun z => h10 (hAB _ z)⟩
theorem vx_L.word {C n d : String} {A : Nat → Prop} {s : State} {args : Array Value} (h : vx_L C n d A s s.heap) : (Cond.laysStatic C n d).before args s = true := by
  obtain ⟨c, k, i, f, a, cell, h1, h2, h3, h4, h5, h6, h7, h8, h9, -⟩ := h
  show (Cond.laysStatic C n d).holds args s none s [] = true
  exact Cond.laysStatic_of h1 h2 h3 h4 h5 h6 h7 h8 h9
/-- .. and what it holds: null or some reference -/
def vx_Zq (C n d : String) (A : Nat → Prop) (U : State) (H : Heap) : Prop := va_Zq C n d A U H ∧ vx_L C n d A U H
theorem vx_Zq.moved {C n d : String} {A : Nat → Prop} {u U : State} {H : Heap} (hvm : u.vm.Alike U.vm) (h : vx_Zq C n d A u H) : vx_Zq C n d A U H := ⟨va_Zq.moved hvm h.1, vx_L.moved hvm h.2⟩
theorem vx_Zq.kept {C n d : String} {A : Nat → Prop} {U : State} {H H1 : Heap} (h : vx_Zq C n d A U H) (hq : ∀ a : Nat, a < H.size → ¬ A a → H1[a]? = H[a]?) : vx_Zq C n d A U H1 := ⟨va_Zq.kept h.1 hq, vx_L.kept h.2 hq⟩
theorem vx_Zq.narrow {C n d : String} {A B : Nat → Prop} {U : State} {H : Heap} (h : vx_Zq C n d A U H) (hAB : ∀ q, B q → A q) : vx_Zq C n d B U H := ⟨va_Zq.narrow h.1 hAB, vx_L.narrow h.2 hAB⟩
theorem vx_Zqof {args : Array Value} {s : State} {C n d : String} {A : Nat → Prop} (hl : (Cond.laysStatic C n d).before args s = true) (hini : (Cond.initialized C).before args s = true) (h : (Cond.isRef (.static C n d)).before args s = true) (hA : ∀ a : Nat, a < s.heap.size → ¬ A a) : vx_Zq C n d A s s.heap := by
  refine ⟨va_Zqof hl hini h hA, ?_⟩
  obtain ⟨c, k, i, f, a, cell, h1, h2, h3, h4, h5, h6, h7, h8, h9⟩ := Cond.laysStatic_spec hl
  exact ⟨c, k, i, f, a, cell, h1, h2, h3, h4, h5, h6, h7, h8, h9, hA a (Array.getElem?_eq_some_iff.mp h5).1⟩
theorem vx_isRef {C n d : String} {v : Value} {A : Nat → Prop} {s : State} {args : Array Value} (h : va_Z C n d v A s s.heap) (hv : v.isRef = true) : (Cond.isRef (.static C n d)).before args s = true := by
  obtain ⟨cf, kf, fi, f, a, cell, h1, h2, h3, h4, h5, h6, h7, -⟩ := h
  have he : (Term.static C n d).eval args s none [] s = some v := by
    simp [Term.eval, State.fieldNamed?, h1, h2, h4, h5, h6, h7]
  simp only [Cond.before, Cond.holds, Cond.value, he]
  cases v <;> simp_all [Value.isRef]
theorem vx_isRefq {C n d : String} {A : Nat → Prop} {s : State} {args : Array Value} (h : va_Zq C n d A s s.heap) : (Cond.isRef (.static C n d)).before args s = true := by
  rcases h with h | ⟨t, h⟩
  · exact vx_isRef h rfl
  · exact vx_isRef h rfl
/-- the same frame, seen from here: as if the method were called anew in this heap -/
theorem vx_rebase {T : State} (X : Stand p l e R s m args below meth c T locs cells slots) {R' : Room} (hf : R'.frames ≤ R.frames) (hl : R'.locals ≤ R.locals) (hc : cells + R'.cells ≤ R.cells) (hs : slots + R'.slots ≤ R.slots) :
    Stand p l e R' ((T.setVm s.vm).setFrames (.invoking m args :: below)) m args below meth c T [] 0 0 := by
  have htop : (T.setVm s.vm).topJava?.isSome := X.here.top
  have hF : ((T.setVm s.vm).setFrames (.invoking m args :: below)).frames = .invoking m args :: below := State.frames_setFrames _ (State.cur_lt_of_top htop)
  obtain ⟨g₀, hg0⟩ := Option.isSome_iff_exists.mp htop
  obtain ⟨r, hr⟩ := State.topJava?_eq_some.mp hg0
  have hl9 : e.platform.stackLimits (T.setVm s.vm).me = e.platform.stackLimits s.me := X.limits
  have hb9 : (T.setVm s.vm).me.stackBytes = s.me.stackBytes := X.bytes
  refine ⟨X.admits, X.cas, X.clock, hF, ?_, X.hears, X.method, X.code, X.here, X.tail, X.warmed, ?_, ?_, ?_⟩
  · have h := X.room
    have hU : ((T.setVm s.vm).setFrames (.invoking m args :: below)).localsInUse = s.localsInUse := by
      rw [State.localsInUse_invoking hF (meth := meth) (c := c) X.method X.code, State.localsInUse_invoking X.frames X.method X.code]
    simp only [State.hasRoom, Bool.and_eq_true, decide_eq_true_eq] at h ⊢
    obtain ⟨⟨⟨⟨h1, h2, h3, h4, h5, h6⟩, h7⟩, h8⟩, h9⟩ := h
    rw [X.frames, List.length_cons] at h2 h3
    have q1 := X.heapSize
    have q2 := X.used
    simp only [hF, hU, List.length_cons, State.stackLimits_setFrames, State.stackBytes_setFrames, hl9, hb9]
    refine ⟨⟨⟨⟨by omega, by omega, by omega, by omega, by omega, h6⟩, ?_⟩, ?_⟩, X.book⟩
    · show T.heap.size + R'.cells ≤ e.platform.maxCells
      omega
    · show T.slotsUsed + R'.slots ≤ e.platform.maxSlots
      omega
  · rw [State.stackLimits_setFrames]; rfl
  · rw [State.stackBytes_setFrames]; rfl
  · refine ⟨?_, Nat.le_refl _, Nat.le_refl _, ?_, ?_, fun a c9 h9 => ⟨c9, h9, rfl, rfl, fun _ _ => rfl⟩⟩
    · obtain ⟨t, ht, -⟩ := State.frames_cons hr
      show T.setVm s.vm = { ((T.setVm s.vm).setFrames (.invoking m args :: below)).setFrames (T.setVm s.vm).frames with heap := T.heap, slotsUsed := T.slotsUsed }
      rw [State.setFrames_setFrames, State.setFrames_self ht]
      rfl
    · show T.slotsUsed = T.slotsUsed + ((T.heap.toList.drop T.heap.size).map (·.slots.size)).sum
      rw [List.drop_eq_nil_of_le (Nat.le_of_eq Array.length_toList)]
      rfl
    · show ((T.heap.toList.drop T.heap.size).map (·.slots.size)).sum ≤ 0
      rw [List.drop_eq_nil_of_le (Nat.le_of_eq Array.length_toList)]
      exact Nat.le_refl _
/-- 'throw new E()': new; dup; invokespecial; athrow -/
theorem vx_throw0 {cc : ByteArray} {pc : Nat} (hexec : p.tables.exec = Jvm.exec) (hb : c.code = cc) (hl : l.stackTraces = false) {own cls : String} {names : List String} {ik ic mc ms : Nat} {A : Nat → Prop}
    (hown : s.vm.findClass own = some m.cls) (hcls : Bundle.fit cls = true) (hnames : ∀ n ∈ names, Bundle.fit n = true)
    (hk : (Cond.classLink own ik cls).before args s = true) (hini : (Cond.initialized cls).before args s = true) (hat : ∀ w ∈ vx_at0 own ic cls names, w.before args s = true)
    (hgood : ∀ w ∈ Cond.classLink own ik cls :: Cond.initialized cls :: vx_at0 own ic cls names, vx_ot w = true)
    (hU : vx_Zq Bundle.tN "UNASSIGNED_STACK" Bundle.steD A s s.heap) (hN : vx_Zq Bundle.tN "SUPPRESSED_SENTINEL" Bundle.listD A s s.heap) (hS : va_S A s.heap H locs) (hsize : ls.size = c.maxLocals)
    (d0 : decode cc pc = .ok (.new ik, 3)) (d3 : decode cc (pc + 3) = .ok (.dup, 1)) (d4 : decode cc (pc + 4) = .ok (.invokespecial ic, 3)) (d7 : decode cc (pc + 7) = .ok (.athrow, 1))
    (hout : ∀ x ∈ c.exceptionTable.toList, covers x (pc + 7) = false)
    (hRframes : names.length + 3 < R.frames) (hRlocals : (rest.map fun v => v.category).sum + (13 * (names.length + 1) + 42) ≤ R.locals) (hRcells : cells + 1 ≤ R.cells) (hRslots : slots + 6 ≤ R.slots) (hlocks : meth.locks = false)
    (hx : ∀ t : State, s.vm.Alike t.vm → H.size ≤ t.heap.size → (∀ q : Nat, q < H.size → t.heap[q]? = H[q]?) → XC cls s t)
    (hf : ∀ z ∈ locs, free z.base) (hc : cells + 1 ≤ mc) (hs : slots + 6 ≤ ms) :
    W p l e R s m args below meth c H locs cells slots (vx_MQ below Qc XC args s mc ms free) (F0 m pc ls rest) := by
  intro T hT X
  have htr : e.platform.stackTraces = false := (show e.platform.stackTraces = l.stackTraces by rw [X.admits.platform]).trans hl
  have Y := vx_rebase X (R' := { frames := R.frames, locals := R.locals, cells := 1, slots := 6 }) (Nat.le_refl _) (Nat.le_refl _) hRcells hRslots
  obtain ⟨s', hA⟩ : ∃ z, z = (T.setVm s.vm).setFrames (.invoking m args :: below) := ⟨_, rfl⟩
  rw [← hA] at Y
  have hvm : s'.vm = s.vm := by rw [hA]; rfl
  have hhp : s'.heap = H := by rw [hA]; exact hT
  have hW0 : s.WarmedH s'.vm := by rw [hvm]; exact State.WarmedH.refl s
  have hat' : ∀ w ∈ vx_at0 own ic cls names, w.before args s' = true := fun w hw => vx_ot_at hW0 hvm.symm (hgood w (List.mem_cons_of_mem _ (List.mem_cons_of_mem _ hw))) (hat w hw)
  have hk' : (Cond.classLink own ik cls).before args s' = true := vx_ot_at hW0 hvm.symm (hgood _ List.mem_cons_self) hk
  have hini' : (Cond.initialized cls).before args s' = true := vx_ot_at hW0 hvm.symm (hgood _ (List.mem_cons_of_mem _ List.mem_cons_self)) hini
  have hU' : vx_Zq Bundle.tN "UNASSIGNED_STACK" Bundle.steD A s' s'.heap := by rw [hhp]; exact vx_Zq.moved hW0.alike (hU.kept hS.2.1)
  have hN' : vx_Zq Bundle.tN "SUPPRESSED_SENTINEL" Bundle.listD A s' s'.heap := by rw [hhp]; exact vx_Zq.moved hW0.alike (hN.kept hS.2.1)
  have h : ∀ w ∈ Bundle.ownAtoms0 own ic cls names, w.before args s' = true := vx_own hat' (vx_isRefq hU'.1) (vx_isRefq hN'.1) hU'.2.word hN'.2.word
  have hown' : s'.vm.findClass own = some m.cls := by rw [hvm]; exact hown
  have hins : (Cond.instantiable cls 6).before args s' = true := h _ (by simp [Bundle.ownAtoms0])
  obtain ⟨vm₁, cX, kX, hfX, hkX, -, -, X₁, st1⟩ := Y.newCold hexec (own := own) (C := cls) (index := ik) (n := 6) hown' hk' hins hini'
    (g := F0 m pc ls rest) rfl (by rw [hb]; exact d0) (Nat.le_refl _) (Nat.le_refl _)
  generalize hT1 : (T.setVm vm₁).pushCell { cls := cX, slots := kX.instanceTypes.map defaultValue, vm := .none } = T1 at X₁ st1
  have hcat : (Value.ref T.heap.size).category = 1 := rfl
  have hcellA : T1.heap[T.heap.size]? = some (freshCell cX kX) := by rw [← hT1]; exact State.heap_pushCell_size _ _
  have d3' : decode c.code (pc + 3) = .ok (.dup, 1) := by rw [hb]; exact d3
  obtain ⟨U, hsteps, hrun, hend, hW, hsame, ce, hce, hO⟩ := X₁.ctorThrow0 hexec htr (own := own) (cls := cls) (names := names) (ic := ic) hown' hcls hnames h (fun x hx => nomatch hx) hfX hkX hcellA (by rw [hhp, hT]; exact Nat.le_refl _)
    (g := { method := m, pc := pc + 4, locals := ls, stack := .ref T.heap.size :: .ref T.heap.size :: rest, locked := none }) rfl hsize rfl rfl (rest := rest) rfl
    (by rw [hb]; exact d4) (by rw [hb]; exact d7) hout hRframes (by simp only [List.map_cons, List.sum_cons, hcat]; omega) hlocks
  obtain ⟨f1, f2⟩ := vx_frame hsame
  rw [hhp] at f1 f2
  have hWs : s.WarmedH U.vm := State.WarmedH.trans hW0 hW
  have hcl : s.vm.findClass cls = some ce.cls := by
    have h9 := hO.cls
    rw [hvm] at h9
    exact h9
  have hall : s.sameButNew ({ U with vm := s.vm } : State) locs mc ms := by
    subst hA
    obtain ⟨e1, e2⟩ := hsame
    rw [State.setFrames_setFrames] at e1
    have h2 : (T.setVm s.vm).sameButNew ({ U with vm := s.vm } : State) [] (0 + 1) (0 + 6) := ⟨e1, e2⟩
    have h3 := X.same.trans h2
    rw [List.append_nil] at h3
    exact h3.mono hc hs
  refine ⟨U, ?_, .threw T.heap.size, hrun, hend, Or.inr ⟨T.heap.size, rfl, cls, ce, locs, hx U hWs.alike f1 (fun q hq => f2 q hq (fun z hz => nomatch hz)), hce, hO.vm, hcl, hWs, hall, hf⟩⟩
  refine st1 _ ?_
  show Steps p.tables e below (T1.setTop { method := m, pc := pc + 3, locals := ls, stack := .ref T.heap.size :: rest, locked := none }) _
  jvm_step X₁.here [X₁.here.top, hexec, d3', Value.category]
  exact hsteps
/-- 'throw new E("text")': new; dup; ldc; invokespecial; athrow -/
theorem vx_throwS {cc : ByteArray} {pc : Nat} (hexec : p.tables.exec = Jvm.exec) (hb : c.code = cc) (hl : l.stackTraces = false) {own cls text : String} {names : List String} {ik is ic mc ms sa : Nat} {A : Nat → Prop}
    (hown : s.vm.findClass own = some m.cls) (hcls : Bundle.fit cls = true) (hnames : ∀ n ∈ names, Bundle.fit n = true)
    (hk : (Cond.classLink own ik cls).before args s = true) (hini : (Cond.initialized cls).before args s = true) (hstr : vk_R own is text sa s) (hat : ∀ w ∈ vx_atS own ic cls names, w.before args s = true)
    (hgood : ∀ w ∈ Cond.classLink own ik cls :: Cond.initialized cls :: vx_atS own ic cls names, vx_ot w = true)
    (hU : vx_Zq Bundle.tN "UNASSIGNED_STACK" Bundle.steD A s s.heap) (hN : vx_Zq Bundle.tN "SUPPRESSED_SENTINEL" Bundle.listD A s s.heap) (hS : va_S A s.heap H locs) (hsize : ls.size = c.maxLocals)
    (d0 : decode cc pc = .ok (.new ik, 3)) (d3 : decode cc (pc + 3) = .ok (.dup, 1)) (d4 : decode cc (pc + 4) = .ok (.ldc is, 2)) (d6 : decode cc (pc + 6) = .ok (.invokespecial ic, 3)) (d9 : decode cc (pc + 9) = .ok (.athrow, 1))
    (hout : ∀ x ∈ c.exceptionTable.toList, covers x (pc + 9) = false)
    (hRframes : names.length + 3 < R.frames) (hRlocals : (rest.map fun v => v.category).sum + (13 * (names.length + 1) + 43) ≤ R.locals) (hRcells : cells + 1 ≤ R.cells) (hRslots : slots + 6 ≤ R.slots) (hlocks : meth.locks = false)
    (hx : ∀ t : State, s.vm.Alike t.vm → H.size ≤ t.heap.size → (∀ q : Nat, q < H.size → t.heap[q]? = H[q]?) → XC cls s t)
    (hf : ∀ z ∈ locs, free z.base) (hc : cells + 1 ≤ mc) (hs : slots + 6 ≤ ms) :
    W p l e R s m args below meth c H locs cells slots (vx_MQ below Qc XC args s mc ms free) (F0 m pc ls rest) := by
  intro T hT X
  have htr : e.platform.stackTraces = false := (show e.platform.stackTraces = l.stackTraces by rw [X.admits.platform]).trans hl
  have Y := vx_rebase X (R' := { frames := R.frames, locals := R.locals, cells := 1, slots := 6 }) (Nat.le_refl _) (Nat.le_refl _) hRcells hRslots
  obtain ⟨s', hA⟩ : ∃ z, z = (T.setVm s.vm).setFrames (.invoking m args :: below) := ⟨_, rfl⟩
  rw [← hA] at Y
  have hvm : s'.vm = s.vm := by rw [hA]; rfl
  have hhp : s'.heap = H := by rw [hA]; exact hT
  have hW0 : s.WarmedH s'.vm := by rw [hvm]; exact State.WarmedH.refl s
  have hat' : ∀ w ∈ vx_atS own ic cls names, w.before args s' = true := fun w hw => vx_ot_at hW0 hvm.symm (hgood w (List.mem_cons_of_mem _ (List.mem_cons_of_mem _ hw))) (hat w hw)
  have hk' : (Cond.classLink own ik cls).before args s' = true := vx_ot_at hW0 hvm.symm (hgood _ List.mem_cons_self) hk
  have hini' : (Cond.initialized cls).before args s' = true := vx_ot_at hW0 hvm.symm (hgood _ (List.mem_cons_of_mem _ List.mem_cons_self)) hini
  have hU' : vx_Zq Bundle.tN "UNASSIGNED_STACK" Bundle.steD A s' s'.heap := by rw [hhp]; exact vx_Zq.moved hW0.alike (hU.kept hS.2.1)
  have hN' : vx_Zq Bundle.tN "SUPPRESSED_SENTINEL" Bundle.listD A s' s'.heap := by rw [hhp]; exact vx_Zq.moved hW0.alike (hN.kept hS.2.1)
  have h : ∀ w ∈ Bundle.ownAtoms own ic cls names, w.before args s' = true := vx_own hat' (vx_isRefq hU'.1) (vx_isRefq hN'.1) hU'.2.word hN'.2.word
  have hown' : s'.vm.findClass own = some m.cls := by rw [hvm]; exact hown
  have hins : (Cond.instantiable cls 6).before args s' = true := h _ (by simp [Bundle.ownAtoms])
  obtain ⟨vm₁, cX, kX, hfX, hkX, -, -, X₁, st1⟩ := Y.newCold hexec (own := own) (C := cls) (index := ik) (n := 6) hown' hk' hins hini'
    (g := F0 m pc ls rest) rfl (by rw [hb]; exact d0) (Nat.le_refl _) (Nat.le_refl _)
  generalize hT1 : (T.setVm vm₁).pushCell { cls := cX, slots := kX.instanceTypes.map defaultValue, vm := .none } = T1 at X₁ st1
  have hcat : (Value.ref T.heap.size).category = 1 := rfl
  have hcellA : T1.heap[T.heap.size]? = some (freshCell cX kX) := by rw [← hT1]; exact State.heap_pushCell_size _ _
  have d3' : decode c.code (pc + 3) = .ok (.dup, 1) := by rw [hb]; exact d3
  have d4' : decode c.code (pc + 4) = .ok (.ldc is, 2) := by rw [hb]; exact d4
  have hstr' : vk_R own is text sa s' := vk_R.warm hW0 hstr
  obtain ⟨U, hsteps, hrun, hend, hW, hsame, ce, hce, hO⟩ := X₁.ctorThrowS hexec htr (own := own) (cls := cls) (names := names) (ic := ic) hown' hcls hnames h (fun x hx => nomatch hx) hfX hkX hcellA (by rw [hhp, hT]; exact Nat.le_refl _) (msg := .ref sa) rfl
    (g := { method := m, pc := pc + 6, locals := ls, stack := .ref sa :: .ref T.heap.size :: .ref T.heap.size :: rest, locked := none }) rfl hsize rfl rfl (rest := rest) rfl
    (by rw [hb]; exact d6) (by rw [hb]; exact d9) hout hRframes (by simp only [List.map_cons, List.sum_cons, hcat]; omega) hlocks
  obtain ⟨f1, f2⟩ := vx_frame hsame
  rw [hhp] at f1 f2
  have hWs : s.WarmedH U.vm := State.WarmedH.trans hW0 hW
  have hcl : s.vm.findClass cls = some ce.cls := by
    have h9 := hO.cls
    rw [hvm] at h9
    exact h9
  have hall : s.sameButNew ({ U with vm := s.vm } : State) locs mc ms := by
    subst hA
    obtain ⟨e1, e2⟩ := hsame
    rw [State.setFrames_setFrames] at e1
    have h2 : (T.setVm s.vm).sameButNew ({ U with vm := s.vm } : State) [] (0 + 1) (0 + 6) := ⟨e1, e2⟩
    have h3 := X.same.trans h2
    rw [List.append_nil] at h3
    exact h3.mono hc hs
  refine ⟨U, ?_, .threw T.heap.size, hrun, hend, Or.inr ⟨T.heap.size, rfl, cls, ce, locs, hx U hWs.alike f1 (fun q hq => f2 q hq (fun z hz => nomatch hz)), hce, hO.vm, hcl, hWs, hall, hf⟩⟩
  refine st1 _ ?_
  show Steps p.tables e below (T1.setTop { method := m, pc := pc + 3, locals := ls, stack := .ref T.heap.size :: rest, locked := none }) _
  jvm_step X₁.here [X₁.here.top, hexec, d3', Value.category]
  exact X₁.ldcString hexec (own := own) (text := text) (index := is) (a := sa) hown' hstr'.1 hstr'.2
    (g := { method := m, pc := pc + 4, locals := ls, stack := .ref T.heap.size :: .ref T.heap.size :: rest, locked := none }) rfl d4' _ hsteps
/-- 'throw new E("text")', the text by a wide index -/
theorem vx_throwSW {cc : ByteArray} {pc : Nat} (hexec : p.tables.exec = Jvm.exec) (hb : c.code = cc) (hl : l.stackTraces = false) {own cls text : String} {names : List String} {ik is ic mc ms sa : Nat} {A : Nat → Prop}
    (hown : s.vm.findClass own = some m.cls) (hcls : Bundle.fit cls = true) (hnames : ∀ n ∈ names, Bundle.fit n = true)
    (hk : (Cond.classLink own ik cls).before args s = true) (hini : (Cond.initialized cls).before args s = true) (hstr : vk_R own is text sa s) (hat : ∀ w ∈ vx_atS own ic cls names, w.before args s = true)
    (hgood : ∀ w ∈ Cond.classLink own ik cls :: Cond.initialized cls :: vx_atS own ic cls names, vx_ot w = true)
    (hU : vx_Zq Bundle.tN "UNASSIGNED_STACK" Bundle.steD A s s.heap) (hN : vx_Zq Bundle.tN "SUPPRESSED_SENTINEL" Bundle.listD A s s.heap) (hS : va_S A s.heap H locs) (hsize : ls.size = c.maxLocals)
    (d0 : decode cc pc = .ok (.new ik, 3)) (d3 : decode cc (pc + 3) = .ok (.dup, 1)) (d4 : decode cc (pc + 4) = .ok (.ldc_w is, 3)) (d7 : decode cc (pc + 7) = .ok (.invokespecial ic, 3)) (d10 : decode cc (pc + 10) = .ok (.athrow, 1))
    (hout : ∀ x ∈ c.exceptionTable.toList, covers x (pc + 10) = false)
    (hRframes : names.length + 3 < R.frames) (hRlocals : (rest.map fun v => v.category).sum + (13 * (names.length + 1) + 43) ≤ R.locals) (hRcells : cells + 1 ≤ R.cells) (hRslots : slots + 6 ≤ R.slots) (hlocks : meth.locks = false)
    (hx : ∀ t : State, s.vm.Alike t.vm → H.size ≤ t.heap.size → (∀ q : Nat, q < H.size → t.heap[q]? = H[q]?) → XC cls s t)
    (hf : ∀ z ∈ locs, free z.base) (hc : cells + 1 ≤ mc) (hs : slots + 6 ≤ ms) :
    W p l e R s m args below meth c H locs cells slots (vx_MQ below Qc XC args s mc ms free) (F0 m pc ls rest) := by
  intro T hT X
  have htr : e.platform.stackTraces = false := (show e.platform.stackTraces = l.stackTraces by rw [X.admits.platform]).trans hl
  have Y := vx_rebase X (R' := { frames := R.frames, locals := R.locals, cells := 1, slots := 6 }) (Nat.le_refl _) (Nat.le_refl _) hRcells hRslots
  obtain ⟨s', hA⟩ : ∃ z, z = (T.setVm s.vm).setFrames (.invoking m args :: below) := ⟨_, rfl⟩
  rw [← hA] at Y
  have hvm : s'.vm = s.vm := by rw [hA]; rfl
  have hhp : s'.heap = H := by rw [hA]; exact hT
  have hW0 : s.WarmedH s'.vm := by rw [hvm]; exact State.WarmedH.refl s
  have hat' : ∀ w ∈ vx_atS own ic cls names, w.before args s' = true := fun w hw => vx_ot_at hW0 hvm.symm (hgood w (List.mem_cons_of_mem _ (List.mem_cons_of_mem _ hw))) (hat w hw)
  have hk' : (Cond.classLink own ik cls).before args s' = true := vx_ot_at hW0 hvm.symm (hgood _ List.mem_cons_self) hk
  have hini' : (Cond.initialized cls).before args s' = true := vx_ot_at hW0 hvm.symm (hgood _ (List.mem_cons_of_mem _ List.mem_cons_self)) hini
  have hU' : vx_Zq Bundle.tN "UNASSIGNED_STACK" Bundle.steD A s' s'.heap := by rw [hhp]; exact vx_Zq.moved hW0.alike (hU.kept hS.2.1)
  have hN' : vx_Zq Bundle.tN "SUPPRESSED_SENTINEL" Bundle.listD A s' s'.heap := by rw [hhp]; exact vx_Zq.moved hW0.alike (hN.kept hS.2.1)
  have h : ∀ w ∈ Bundle.ownAtoms own ic cls names, w.before args s' = true := vx_own hat' (vx_isRefq hU'.1) (vx_isRefq hN'.1) hU'.2.word hN'.2.word
  have hown' : s'.vm.findClass own = some m.cls := by rw [hvm]; exact hown
  have hins : (Cond.instantiable cls 6).before args s' = true := h _ (by simp [Bundle.ownAtoms])
  obtain ⟨vm₁, cX, kX, hfX, hkX, -, -, X₁, st1⟩ := Y.newCold hexec (own := own) (C := cls) (index := ik) (n := 6) hown' hk' hins hini'
    (g := F0 m pc ls rest) rfl (by rw [hb]; exact d0) (Nat.le_refl _) (Nat.le_refl _)
  generalize hT1 : (T.setVm vm₁).pushCell { cls := cX, slots := kX.instanceTypes.map defaultValue, vm := .none } = T1 at X₁ st1
  have hcat : (Value.ref T.heap.size).category = 1 := rfl
  have hcellA : T1.heap[T.heap.size]? = some (freshCell cX kX) := by rw [← hT1]; exact State.heap_pushCell_size _ _
  have d3' : decode c.code (pc + 3) = .ok (.dup, 1) := by rw [hb]; exact d3
  have d4' : decode c.code (pc + 4) = .ok (.ldc_w is, 3) := by rw [hb]; exact d4
  have hstr' : vk_R own is text sa s' := vk_R.warm hW0 hstr
  obtain ⟨U, hsteps, hrun, hend, hW, hsame, ce, hce, hO⟩ := X₁.ctorThrowS hexec htr (own := own) (cls := cls) (names := names) (ic := ic) hown' hcls hnames h (fun x hx => nomatch hx) hfX hkX hcellA (by rw [hhp, hT]; exact Nat.le_refl _) (msg := .ref sa) rfl
    (g := { method := m, pc := pc + 7, locals := ls, stack := .ref sa :: .ref T.heap.size :: .ref T.heap.size :: rest, locked := none }) rfl hsize rfl rfl (rest := rest) rfl
    (by rw [hb]; exact d7) (by rw [hb]; exact d10) hout hRframes (by simp only [List.map_cons, List.sum_cons, hcat]; omega) hlocks
  obtain ⟨f1, f2⟩ := vx_frame hsame
  rw [hhp] at f1 f2
  have hWs : s.WarmedH U.vm := State.WarmedH.trans hW0 hW
  have hcl : s.vm.findClass cls = some ce.cls := by
    have h9 := hO.cls
    rw [hvm] at h9
    exact h9
  have hall : s.sameButNew ({ U with vm := s.vm } : State) locs mc ms := by
    subst hA
    obtain ⟨e1, e2⟩ := hsame
    rw [State.setFrames_setFrames] at e1
    have h2 : (T.setVm s.vm).sameButNew ({ U with vm := s.vm } : State) [] (0 + 1) (0 + 6) := ⟨e1, e2⟩
    have h3 := X.same.trans h2
    rw [List.append_nil] at h3
    exact h3.mono hc hs
  refine ⟨U, ?_, .threw T.heap.size, hrun, hend, Or.inr ⟨T.heap.size, rfl, cls, ce, locs, hx U hWs.alike f1 (fun q hq => f2 q hq (fun z hz => nomatch hz)), hce, hO.vm, hcl, hWs, hall, hf⟩⟩
  refine st1 _ ?_
  show Steps p.tables e below (T1.setTop { method := m, pc := pc + 3, locals := ls, stack := .ref T.heap.size :: rest, locked := none }) _
  jvm_step X₁.here [X₁.here.top, hexec, d3', Value.category]
  exact X₁.ldcStringW hexec (own := own) (text := text) (index := is) (a := sa) hown' hstr'.1 hstr'.2
    (g := { method := m, pc := pc + 4, locals := ls, stack := .ref T.heap.size :: .ref T.heap.size :: rest, locked := none }) rfl d4' _ hsteps
end Ends
section Bodies
variable {l : Launch}
theorem vx_ofW {y : MethodName} {ws ws' : List Cond} {rm : Room} {Pc : Array Value → State → Prop} {Qc : Array Value → State → Outcome → State → Prop} {XC : String → State → State → Prop} {mc ms : Nat} {free : Addr → Prop} {cc : ByteArray} {maxL : Nat} {ret : Option FieldType}
    (hy : plainName y.cls = true) (hw : ws = Cond.code y cc maxL ret :: ws')
    (body : ∀ p e s m args below meth c s₁, BodyLoose p l y (headSpec ws rm) cc maxL ret e s m args below meth c s₁ → c.maxLocals = maxL → (∀ x ∈ c.exceptionTable.toList, False) → Pc args s →
      W p l e (headSpec ws rm).room s m args below meth c s.heap [] 0 0 (vx_MQ below Qc XC args s mc ms free) (entryFrame m args maxL)) : vx_Met l y ws rm Pc Qc XC mc ms free := by
  refine MetFree.of_bodyS (code := cc) (maxLocals := maxL) (ret := ret) hy ?_ ?_
  · intro args s m h hn
    obtain ⟨meth, c, h1, h2, h3, h4, h5, h6, -, -⟩ := Cond.code_spec hn (atoms_spec (ws := ws) h _ (by rw [hw]; exact List.mem_cons_self))
    exact ⟨meth, c, h1, h2, h3, h4, h5, h6⟩
  · intro p e s m args below meth c s₁ B hml hP _
    have hh0 : s₁.heap = s.heap := by rw [B.state]; rfl
    have ht : ∀ x ∈ c.exceptionTable.toList, False := by
      obtain ⟨meth9, c9, h1, h2, -, -, -, -, h7, -⟩ := Cond.code_spec B.named (atoms_spec (ws := ws) B.pre _ (by rw [hw]; exact List.mem_cons_self))
      cases Option.some.inj (h1.symm.trans B.method)
      cases Option.some.inj (h2.symm.trans (Stand.of_body B).code)
      intro x hx
      rw [Array.isEmpty_iff.mp h7] at hx
      cases hx
    obtain ⟨t, a1, o, b1, b2, b3⟩ := body p e s m args below meth c s₁ B hml ht hP s₁ hh0 (Stand.of_body B)
    exact ⟨t, o, a1, b1, b2, b3⟩
/-- the table of a body with handlers -/
theorem vx_table {p : Program} {x y : MethodName} {S : Spec} {cc bytes : ByteArray} {maxL maxL' : Nat} {ret ret' : Option FieldType} {e : Env} {s s₁ : State} {m : MethodId} {args : Array Value} {below : List Frame} {meth : Method} {c : Code} {hh : List (Nat × Nat × Nat × Nat)}
    (B : BodyLoose p l y S cc maxL ret e s m args below meth c s₁) (h : (Cond.codeWith y bytes maxL' ret' hh).before args s = true) : c.exceptionTable.toList = tableOf hh := by
  obtain ⟨m9, meth9, c9, hn9, h1, h2, -, -, h6, -⟩ := Cond.codeWith_spec h
  cases Option.some.inj (hn9.symm.trans B.named)
  cases Option.some.inj (h1.symm.trans B.method)
  cases Option.some.inj (h2.symm.trans (Stand.of_body B).code)
  rw [← h6, table_eq]
end Bodies
end VXA
/-! ===== END ===== -/
/-! ===== BEGIN a static call of a method with an exception table ===== -/
section VXS
variable {p : Program} {l : Launch} {e : Env} {R : Room} {s : State} {m : MethodId} {args : Array Value} {below : List Frame} {meth : Method} {c : Code} {T : State} {H : Heap} {locs : List Loc} {cells slots : Nat}
abbrev vx_CSW (R : Room) (s : State) (args : Array Value) (own : String) (index : Nat) (y : MethodName) (bytes : ByteArray) (maxL : Nat) (ret : Option FieldType) (hh : List (Nat × Nat × Nat × Nat)) (ws : List Cond) (rm : Room) (mc ms n : Nat) : Prop :=
  (rm.cells = mc ∧ rm.slots = ms ∧ rm.frames + 1 ≤ R.frames ∧ 8 + (maxL + 11) + rm.locals ≤ R.locals ∧ (∀ w ∈ ws, ∀ (a' : Array Value) (U : State), s.WarmedH U.vm → w.before a' U = true) ∧ Cond.codeWith y bytes maxL ret hh ∈ ws) ∧
  (Cond.codeWith y bytes maxL ret hh).before args s = true ∧ (Cond.initialized y.cls).before args s = true ∧ (y.cls ≠ "java/lang/invoke/MethodHandle" ∧ y.cls ≠ "java/lang/invoke/VarHandle") ∧
  (∀ sig, parseMethodDescriptor y.desc = some sig → n = sig.parameters.length) ∧ (Cond.methodLink own index y).before args s = true ∧ (Cond.static y).before args s = true
theorem vx_cwSW {own : String} {index maxL mc ms : Nat} {y : MethodName} {bytes : ByteArray} {ret : Option FieldType} {hh : List (Nat × Nat × Nat × Nat)} {Ts ws ws' : List Cond} {rm : Room} (n : Nat) (ht : ∀ w ∈ Ts, w.before args s = true) (hT : GoodIn Ts (va_wsS own index y ws)) (hw : ws = Cond.codeWith y bytes maxL ret hh :: ws') (hrc : rm.cells = mc) (hrs : rm.slots = ms)
    (hd : y.cls ≠ "java/lang/invoke/MethodHandle" ∧ y.cls ≠ "java/lang/invoke/VarHandle" ∧ (parseMethodDescriptor y.desc).map (fun d => d.parameters.length) = some n) (hR : rm.frames + 1 ≤ R.frames ∧ 8 + (maxL + 11) + rm.locals ≤ R.locals) :
    vx_CSW R s args own index y bytes maxL ret hh ws rm mc ms n := by
  have ok : ∀ w ∈ va_wsS own index y ws, w.before args s = true := fun w h => ht w (hT w h).1
  have hG : GoodIn Ts ws := fun w h => hT w (by unfold va_wsS; exact List.mem_append_right _ h)
  have hc : Cond.codeWith y bytes maxL ret hh ∈ ws := by rw [hw]; exact List.mem_cons_self
  refine ⟨⟨hrc, hrs, hR.1, hR.2, pay_in ht hG, hc⟩, ht _ (hG _ hc).1, ok _ (by simp [va_wsS]), ⟨hd.1, hd.2.1⟩, fun sig h => ?_, ok _ (by simp [va_wsS]), ok _ (by simp [va_wsS])⟩
  have h2 := hd.2.2
  rw [h] at h2
  exact (Option.some.inj h2).symm
theorem vx_callSW (X : Stand p l e R s m args below meth c T locs cells slots) (hexec : p.tables.exec = Jvm.exec) {own : String} {index : Nat} {y : MethodName} {bytes : ByteArray} {maxL : Nat} {ret : Option FieldType} {hh : List (Nat × Nat × Nat × Nat)}
    (hown : s.vm.findClass own = some m.cls) (hlink : (Cond.methodLink own index y).before args s = true) (hstat : (Cond.static y).before args s = true) (hinit : (Cond.initialized y.cls).before args s = true)
    (hcode : (Cond.codeWith y bytes maxL ret hh).before args s = true) (hy : y.cls ≠ "java/lang/invoke/MethodHandle" ∧ y.cls ≠ "java/lang/invoke/VarHandle")
    {W9 : Nat} {Pre : Pt → Array Value → Prop} {Post : Pt → Array Value → Option Value → Pt → Prop} (hK : Back l R p e below s args y 3 W9 Pre Post)
    {g : JFrame} (hg : g.method = m) (hsize : g.locals.size = c.maxLocals) {argsL rest : List Value} (hlen : ∀ sig, parseMethodDescriptor y.desc = some sig → argsL.length = sig.parameters.length)
    (hstack : g.stack = argsL.reverse ++ rest) (hW : 2 * g.monitorRoom + (rest.map fun v => v.category).sum ≤ W9) (hdg : decode c.code g.pc = .ok (.invokestatic index, 3))
    (hpre : ∀ vm₁, s.WarmedH vm₁ → Pre ⟨T.setVm vm₁, locs, cells, slots⟩ argsL.toArray) :
    ∃ (v : Option Value) (vm₁ : Vm) (B : Pt), s.WarmedH vm₁ ∧ Stand p l e R s m args below meth c B.U B.locs B.cells B.slots ∧ Post ⟨T.setVm vm₁, locs, cells, slots⟩ argsL.toArray v B ∧
      ∀ target, Steps p.tables e below (B.U.setTop { g with pc := g.pc + 3, stack := v.toList ++ rest }) target → Steps p.tables e below (T.setTop g) target := by
  obtain ⟨mk, methM, cM, hnamed, hmethM, -, -, -, -, -, -, hsigM⟩ := Cond.codeWith_spec hcode
  have hstatic : methM.isStatic = true := Cond.static_spec hnamed hmethM hstat
  obtain ⟨kP, hkP, -⟩ := className_of_methodNamed hnamed
  have hinitP : kP.init = .initialized := Cond.initialized_spec (findClass_of_methodNamed hnamed) hkP hinit
  obtain ⟨vm₁, X₁, hstep₁⟩ := X.invokestatic hexec hown hlink hnamed hmethM hstatic hkP hinitP hy (g := g) hg (argsL := argsL) (rest := rest) (hlen _ hsigM) hstack hdg
  obtain ⟨v, B, X', hpost, hsteps⟩ := hK m meth c ⟨T.setVm vm₁, locs, cells, slots⟩ { g with stack := rest } (.invokestatic index) mk argsL.toArray X₁ hg hsize hdg hW (X₁.named hnamed) (hpre vm₁ X₁.warmed)
  exact ⟨v, vm₁, B, X₁.warmed, X', hpost, fun target h => hstep₁ _ fun acts => by rw [doInvoke_state]; exact hsteps.trans h⟩
theorem vx_runSW {y : MethodName} {bytes cc : ByteArray} {maxL nL mc ms n index : Nat} {ret : Option FieldType} {hh : List (Nat × Nat × Nat × Nat)} {ws : List Cond} {rm : Room} {Pc : Array Value → State → Prop} {Qc : Array Value → State → Outcome → State → Prop} {free : Addr → Prop} {Ts : List Cond} {own : String} {As rest : List Value} {g : JFrame}
    (S : CallFix p m c cc nL s args Ts own) (hM : Met l y ws rm Pc Qc mc ms free) (cw : vx_CSW R s args own index y bytes maxL ret hh ws rm mc ms n) (hp : PreS s H Pc As)
    (hg : g.method = m) (hn : As.length = n) (hsize : g.locals.size = nL) (hstack : g.stack = As.reverse ++ rest) (hW : 2 * g.monitorRoom + (rest.map fun v => v.category).sum ≤ 8) (hdg : decode cc g.pc = .ok (.invokestatic index, 3)) (hf : cells + mc ≤ R.cells ∧ slots + ms ≤ R.slots) :
    va_Run p l e R s m args below meth c H locs cells slots mc ms g rest (Qc As.toArray) (free) := by
  obtain ⟨⟨hrc, hrs, hfr, hlo, hws, hcw⟩, hcode, hini, hy, hlen, hl, hstt⟩ := cw
  have hK : Back l R p e below s args y 3 8 (PreOf R mc ms Pc) (PostOf Qc mc ms free) := va_backW (hh := hh) (bytes := bytes) (maxL := maxL) (ret := ret) hM hp.1 hrc hrs hfr hlo hws hcw (fun a' U hW => word_at hW (Or.inl (by first | rfl | simp [Cond.onTables, Cond.keeps, Cond.steady])) hini)
  obtain ⟨hx, hb, hml, ho, -⟩ := S
  intro T hT X
  obtain ⟨v, vm₁, ⟨U', l2, c2, s2⟩, hW₁, X', ⟨g', mk, t, L, e1, e2, hq, h1, hL, h2, h3⟩, st⟩ := vx_callSW X hx (hh := hh) (bytes := bytes) (maxL := maxL) (ret := ret) ho hl hstt hini hcode hy hK hg (hsize.trans hml.symm) (argsL := As) (rest := rest) (fun sig h => hn.trans (hlen sig h)) hstack hW (by rw [hb]; exact hdg)
    (fun vm₁ hW₁ => ⟨hf.1, hf.2, hp.2 (T.setVm vm₁) hT hW₁⟩)
  dsimp only [Pt.U, Pt.locs, Pt.cells, Pt.slots] at X' e1 e2 h1 h2 h3 st
  subst h1; subst h2; subst h3
  exact ⟨v, (T.setVm vm₁).calling g' mk As.toArray, t, U', L, hT, X', hL, e1, e2, hq, st⟩
/-- not caught here, past rows that name other classes: it goes on to the caller -/
theorem vx_outP {p : Program} {l : Launch} {e : Env} {R : Room} {s : State} {m : MethodId} {args : Array Value} {below : List Frame} {meth : Method} {c : Code} {H : Heap} {locs : List Loc} {cells slots : Nat} {free : Addr → Prop} {ls : Array Slot} {rest : List Value} {Qc : Array Value → State → Outcome → State → Prop} {XC : String → State → State → Prop}
    {pc : Nat} {own E : String} {ce : Cell} {q : Addr} {mc ms : Nat} (hown : s.vm.findClass own = some m.cls) (hlocks : meth.locks = false)
    (hpass : ∀ z ∈ c.exceptionTable.toList, covers z pc = false ∨ (z.catchType ≠ 0 ∧ ∃ nm : String, (Cond.classLink own z.catchType nm).before args s = true ∧ va_Nc E nm s)) (hcell : H[q]? = some ce) (hv : ce.vm = .none) (hcl : s.vm.findClass E = some ce.cls)
    (hx : ∀ t : State, t.heap = H → s.vm.Alike t.vm → XC E s t) (hf : ∀ z ∈ locs, free z.base) (hc : cells ≤ mc) (hs : slots ≤ ms) :
    vx_W p l e R s m args below meth c H locs cells slots (vx_MQ below Qc XC args s mc ms free) (F0 m pc ls rest) q := by
  intro T hT X
  have hpl : e.platform.magicAccessors = ({} : Platform).magicAccessors := by rw [X.admits.platform]
  obtain ⟨vm', hW', X', st⟩ := X.outThrough hlocks q (g := F0 m pc ls rest) rfl rfl rfl (cell := ce) (by rw [hT]; exact hcell) (by rw [hv]; rfl)
    (by obtain ⟨k9, h9, -⟩ := Vm.findClass_spec hcl; exact ⟨k9, h9⟩) (fun z hz => by
      rcases hpass z hz with h | ⟨hz0, nm, hl1, hn1⟩
      · exact Or.inl h
      · obtain ⟨c6, hc6, hcl6⟩ := Cond.classLink_spec hown hl1 e.platform hpl
        obtain ⟨a8, b8, h1, h2, h3⟩ := hn1
        cases Option.some.inj (h1.symm.trans hcl)
        cases Option.some.inj (h2.symm.trans hc6)
        exact Or.inr ⟨hz0, _, hcl6, h3⟩)
  obtain ⟨g₀, hfr⟩ := X'.frames_eq
  have hcell9 : ((T.setVm vm').setFrames (.throwing q :: below)).heap[q]? = some ce := by
    show T.heap[q]? = some ce
    rw [hT]; exact hcell
  have hend : Ended ((T.setVm vm').setFrames (.throwing q :: below)) below (.threw q) := State.frames_setFrames _ (State.cur_lt_of_frames hfr)
  refine ⟨(T.setVm vm').setFrames (.throwing q :: below), ?_, .threw q, X'.here.running, hend, Or.inr ⟨q, rfl, E, ce, locs, hx _ hT (X'.ends _).1.alike, hcell9, hv, hcl, (X'.ends _).1, (X'.ends _).2.mono hc hs, hf⟩⟩
  rw [X.pushThrowing_eq]
  exact st
/-- a thing of a world lies in the heap -/
theorem vx_lt {D : va_G} {cl : List vw_C} {ws : va_W} {H1 : Heap} (h : va_P D cl ws H1) {k : Nat} {q : Nat × va_E} (hk : ws[k]? = some q) : q.1 < H1.size := (h k q hk).lt
end VXS
/-! ===== END ===== -/
/-! ===== BEGIN methods with a table of their own: called by a name, returning or throwing ===== -/
section VXH
/-! vx_backW, vx_callVX, vx_callSX, vx_callVW, vx_runVW, vx_runVX, vx_runSX, vx_ofWH follow the same proofs as their sisters above (Free/Laws.lean, Shelf42/LK1.lean); vx_outP calls Shelf42/NT130.lean (outThrough). -/
section
variable {l : Launch} {R : Room} {p : Program} {e : Env} {below : List Frame} {s : State} {sargs : Array Value} {y : MethodName} {len W9 : Nat}
theorem vx_backW {ws : List Cond} {rm : Room} {Pc : Array Value → State → Prop} {Qc : Array Value → State → Outcome → State → Prop} {XC : String → State → State → Prop} {mc ms : Nat} {free : Addr → Prop} {bytes : ByteArray} {maxL : Nat} {ret : Option FieldType} {hh : List (Nat × Nat × Nat × Nat)}
    (hM : vx_Met l y ws rm Pc Qc XC mc ms free) (hblind : FrameBlind Pc) (hrc : rm.cells = mc) (hrs : rm.slots = ms)
    (hframes : rm.frames + 1 ≤ R.frames) (hlocals : W9 + (maxL + 11) + rm.locals ≤ R.locals)
    (hws : ∀ w ∈ ws, ∀ a' U, s.WarmedH U.vm → w.before a' U = true) (hcode : Cond.codeWith y bytes maxL ret hh ∈ ws) (hinit : ∀ a' U, s.WarmedH U.vm → (Cond.initialized y.cls).before a' U = true) :
    vx_Back l R p e below s sargs y len W9 (PreOf R mc ms Pc) (PostOf Qc mc ms free) (vx_Post XC mc ms free) := by
  intro m meth c A g ig mk a X hg hsize hdg hW hn hp
  have h1 : (headSpec ws rm).pre.before a A.U = true := atoms_intro fun w hw => hws w hw _ _ X.warmed
  have h2 : (Cond.codeWith y bytes maxL ret hh).before a A.U = true := hws _ hcode _ _ X.warmed
  have h3 : (Cond.initialized y.cls).before a A.U = true := hinit _ _ X.warmed
  have h4 : A.cells + (headSpec ws rm).room.cells ≤ R.cells := by rw [show (headSpec ws rm).room.cells = mc from hrc]; exact hp.1
  have h5 : A.slots + (headSpec ws rm).room.slots ≤ R.slots := by rw [show (headSpec ws rm).room.slots = ms from hrs]; exact hp.2.1
  have hPc : Pc a (A.U.calling g mk a) := hblind _ _ _ _ hp.2.2
  obtain ⟨U, Ls, c0, s0⟩ := A
  dsimp only [Pt.U, Pt.locs, Pt.cells, Pt.slots] at h1 h2 h3 h4 h5 X hn hPc ⊢
  obtain ⟨m9, methY, cY, hn9, hmY, hcY, -, hlY, -⟩ := Cond.codeWith_spec h2
  cases Option.some.inj (hn9.symm.trans hn)
  obtain ⟨kY, hkY, -⟩ := className_of_methodNamed hn
  have hinitY : kY.init = .initialized := Cond.initialized_spec (findClass_of_methodNamed hn) hkY h3
  have h : At U g.method c below := by rw [hg]; exact X.here
  have hlocals9 : W9 + (maxL + 11) + (headSpec ws rm).room.locals ≤ R.locals := hlocals
  have happ : (headSpec ws rm).appliesLoose y e.platform (U.calling g mk a) = true :=
    Spec.appliesLoose_calling (g := g) h hdg hn hkY hinitY
      (X.room_calling (g := g) (R' := (headSpec ws rm).room) hsize hmY hcY hframes (by rw [hlY]; omega) h4 h5) h1
  obtain ⟨mid, hmid⟩ := h.above
  have hfr : (U.setTop g).frames = (.java g :: mid) ++ below := by rw [State.frames_setTop' g h.top, hmid]; rfl
  obtain ⟨o, s₂, hsteps, -, hend, hq⟩ := Steps.callFree hM p X.admits X.cas X.clock (acts := []) hfr happ hPc trivial
  have hq' : vx_Q Qc XC mc ms free a (U.calling g mk a) o s₂ := hq
  rw [State.frames_setTop' g h.top] at hend
  obtain ⟨g₀, hg0⟩ := Option.isSome_iff_exists.mp h.top
  obtain ⟨r, hr⟩ := State.topJava?_eq_some.mp hg0
  have hr' : (({ U with heap := s₂.heap, slotsUsed := s₂.slotsUsed } : State).setVm s₂.vm).frames = .java g₀ :: r := hr
  rcases hq' with ⟨hqc, L, hfe, hL⟩ | ⟨q, rfl, E, ce, L, hx, hce, hcv, hcl, hW₂, hsm, hL⟩
  · obtain ⟨⟨v, rfl⟩, hW₂, e2, q2, q3, q4, q5, q6⟩ := id hfe
    have e3 : s₂ = ({ (U.calling g mk a).setFrames s₂.frames with heap := s₂.heap, slotsUsed := s₂.slotsUsed } : State).setVm s₂.vm := by
      have : s₂ = ({ s₂ with vm := (U.calling g mk a).vm } : State).setVm s₂.vm := rfl
      rw [e2] at this
      exact this
    obtain ⟨c₂, i₂, len₂, hc₂, hd₂, hf₂⟩ := hend
    have hW' : U.WarmedH s₂.vm := hW₂
    have hcc : c₂ = c := by
      have h1 : s₂.code? g.method = U.code? g.method := by
        rw [State.code?_eq, State.code?_eq, hW'.alike.method?]
      exact Option.some.inj (hc₂.symm.trans (h1.trans h.code))
    subst hcc
    have hlen : len₂ = len := by rw [hdg] at hd₂; cases hd₂; rfl
    subst hlen
    have hs₂ : s₂ = (({ U with heap := s₂.heap, slotsUsed := s₂.slotsUsed } : State).setVm s₂.vm).setTop { g with pc := g.pc + len₂, stack := v.toList ++ g.stack } := by
      refine e3.trans ?_
      rw [hf₂, State.calling_eq h.top, State.setFrames_setFrames, State.setTop_of_frames _ hr', hr]
      rfl
    have hsame : U.sameButNew ({ U with heap := s₂.heap, slotsUsed := s₂.slotsUsed } : State) L mc ms := by
      refine ⟨?_, q2, q3, q4, q5, q6⟩
      obtain ⟨t, ht, -⟩ := State.frames_cons hr
      show ({ U with heap := s₂.heap, slotsUsed := s₂.slotsUsed } : State) = { U.setFrames U.frames with heap := s₂.heap, slotsUsed := s₂.slotsUsed }
      rw [State.setFrames_self ht]
    subst hg
    refine Or.inl ⟨v, ⟨(({ U with heap := s₂.heap, slotsUsed := s₂.slotsUsed } : State).setVm s₂.vm), Ls ++ L, c0 + mc, s0 + ms⟩,
      ⟨X.admits, X.cas, X.clock, X.frames, X.room, X.hears, X.method, X.code, (X.here.setHeapUsed s₂.heap s₂.slotsUsed).setVm hW'.alike, X.tail, State.WarmedH.trans X.warmed hW', X.limits, X.bytes, X.same.trans (hsame.setVm s.vm)⟩,
      ⟨g, mk, s₂, L, rfl, rfl, hqc, rfl, hL, rfl, rfl⟩, ?_⟩
    show Steps p.tables e below _ ((({ U with heap := s₂.heap, slotsUsed := s₂.slotsUsed } : State).setVm s₂.vm).setTop { g with pc := g.pc + len₂, stack := v.toList ++ g.stack })
    rw [← hs₂]
    exact hsteps
  · obtain ⟨e2, q2, q3, q4, q5, q6⟩ := id hsm
    have e3 : s₂ = ({ (U.calling g mk a).setFrames s₂.frames with heap := s₂.heap, slotsUsed := s₂.slotsUsed } : State).setVm s₂.vm := by
      have : s₂ = ({ s₂ with vm := (U.calling g mk a).vm } : State).setVm s₂.vm := rfl
      rw [e2] at this
      exact this
    have hf₂ : s₂.frames = .throwing q :: .java g :: U.frames.tail := hend
    have hW' : U.WarmedH s₂.vm := hW₂
    have hs₂ : s₂ = ((({ U with heap := s₂.heap, slotsUsed := s₂.slotsUsed } : State).setVm s₂.vm).setTop g).pushFrame (.throwing q) := by
      refine e3.trans ?_
      rw [hf₂, State.calling_eq h.top, State.setFrames_setFrames, State.pushFrame, State.frames_setTop _ hr', State.setTop_of_frames _ hr', State.setFrames_setFrames, hr]
      rfl
    have hsame : U.sameButNew ({ U with heap := s₂.heap, slotsUsed := s₂.slotsUsed } : State) L mc ms := by
      refine ⟨?_, q2, q3, q4, q5, q6⟩
      obtain ⟨t, ht, -⟩ := State.frames_cons hr
      show ({ U with heap := s₂.heap, slotsUsed := s₂.slotsUsed } : State) = { U.setFrames U.frames with heap := s₂.heap, slotsUsed := s₂.slotsUsed }
      rw [State.setFrames_self ht]
    subst hg
    refine Or.inr ⟨q, ⟨(({ U with heap := s₂.heap, slotsUsed := s₂.slotsUsed } : State).setVm s₂.vm), Ls ++ L, c0 + mc, s0 + ms⟩,
      ⟨X.admits, X.cas, X.clock, X.frames, X.room, X.hears, X.method, X.code, (X.here.setHeapUsed s₂.heap s₂.slotsUsed).setVm hW'.alike, X.tail, State.WarmedH.trans X.warmed hW', X.limits, X.bytes, X.same.trans (hsame.setVm s.vm)⟩,
      ⟨g, mk, s₂, L, E, ce, rfl, rfl, hx, hce, hcv, hcl, rfl, hL, rfl, rfl⟩, ?_⟩
    show Steps p.tables e below _ (((({ U with heap := s₂.heap, slotsUsed := s₂.slotsUsed } : State).setVm s₂.vm).setTop g).pushFrame (.throwing q))
    rw [← hs₂]
    exact hsteps
end
variable {p : Program} {l : Launch} {e : Env} {R : Room} {s : State} {m : MethodId} {args : Array Value} {below : List Frame} {meth : Method} {c : Code} {T : State} {H : Heap} {locs : List Loc} {cells slots : Nat}
theorem vx_callVX (X : Stand p l e R s m args below meth c T locs cells slots) (hexec : p.tables.exec = Jvm.exec) {own C : String} {index : Nat} {y : MethodName} {bytes : ByteArray} {maxL : Nat} {ret : Option FieldType} {hh : List (Nat × Nat × Nat × Nat)}
    (hown : s.vm.findClass own = some m.cls) (hlink : (Cond.methodLink own index y).before args s = true) (hinst : (Cond.instanceMethod y).before args s = true) (hsel : (Cond.selects C y y).before args s = true)
    (hcode : (Cond.codeWith y bytes maxL ret hh).before args s = true) (hy : y.cls ≠ "java/lang/invoke/MethodHandle" ∧ y.cls ≠ "java/lang/invoke/VarHandle")
    {W9 : Nat} {Pre : Pt → Array Value → Prop} {Post : Pt → Array Value → Option Value → Pt → Prop} {PostX : Pt → Array Value → Addr → Pt → Prop} (hK : vx_Back l R p e below s args y 3 W9 Pre Post PostX)
    {b : Addr} {cellB : Cell} (hcell : T.heap[b]? = some cellB) (hobj : cellB.vm.isStatics = false) (hcls : s.vm.findClass C = some cellB.cls)
    {g : JFrame} (hg : g.method = m) (hsize : g.locals.size = c.maxLocals) {argsL rest : List Value} (hlen : ∀ sig, parseMethodDescriptor y.desc = some sig → argsL.length = sig.parameters.length)
    (hstack : g.stack = argsL.reverse ++ .ref b :: rest) (hW : 2 * g.monitorRoom + (rest.map fun v => v.category).sum ≤ W9) (hdg : decode c.code g.pc = .ok (.invokevirtual index, 3))
    (hpre : ∀ vm₁, s.WarmedH vm₁ → Pre ⟨T.setVm vm₁, locs, cells, slots⟩ (Value.ref b :: argsL).toArray) :
    (∃ (v : Option Value) (vm₁ : Vm) (B : Pt), s.WarmedH vm₁ ∧ Stand p l e R s m args below meth c B.U B.locs B.cells B.slots ∧ Post ⟨T.setVm vm₁, locs, cells, slots⟩ (Value.ref b :: argsL).toArray v B ∧
      ∀ target, Steps p.tables e below (B.U.setTop { g with pc := g.pc + 3, stack := v.toList ++ rest }) target → Steps p.tables e below (T.setTop g) target) ∨
    (∃ (q : Addr) (vm₁ : Vm) (B : Pt), s.WarmedH vm₁ ∧ Stand p l e R s m args below meth c B.U B.locs B.cells B.slots ∧ PostX ⟨T.setVm vm₁, locs, cells, slots⟩ (Value.ref b :: argsL).toArray q B ∧
      Steps p.tables e below (T.setTop g) ((B.U.setTop { g with stack := rest }).pushFrame (.throwing q))) := by
  obtain ⟨mk, methM, hnamed, hmethM, hstM, habM⟩ := Cond.instanceMethod_spec hinst
  obtain ⟨m8, methM', cM, hn8, hmethM', -, -, -, -, -, -, hsigM⟩ := Cond.codeWith_spec hcode
  cases Option.some.inj (hn8.symm.trans hnamed)
  cases hmethM.symm.trans hmethM'
  obtain ⟨c2, r2, m2, q1, q2, q3, q4, kP, hkP, hkPi⟩ := Cond.selects_spec hsel
  cases hcls.symm.trans q1
  cases (State.methodFound?_of_named hnamed hy).symm.trans q2
  cases hnamed.symm.trans q3
  have hselP : selectMethod e.platform s.vm cellB.cls mk = .method mk := by rw [Launch.admits_selectMethod X.admits]; exact q4
  obtain ⟨vm₁, X₁, hstep₁⟩ := X.invokevirtual hexec hown hlink hnamed hmethM hstM hkP hkPi hy (a := b) (cell := cellB) hcell
    (fun z h => by rw [h] at hobj; cases hobj) hselP hmethM habM hkP hkPi (g := g) hg (argsL := argsL) (rest := rest) (hlen _ hsigM) hstack hdg
  rcases hK m meth c ⟨T.setVm vm₁, locs, cells, slots⟩ { g with stack := rest } (.invokevirtual index) mk (Value.ref b :: argsL).toArray X₁ hg hsize hdg hW (X₁.named hnamed) (hpre vm₁ X₁.warmed) with ⟨v, B, X', hpost, hsteps⟩ | ⟨q, B, X', hpost, hsteps⟩
  · exact Or.inl ⟨v, vm₁, B, X₁.warmed, X', hpost, fun target h => hstep₁ _ fun acts => by rw [doInvoke_state]; exact hsteps.trans h⟩
  · exact Or.inr ⟨q, vm₁, B, X₁.warmed, X', hpost, hstep₁ _ fun acts => by rw [doInvoke_state]; exact hsteps⟩
theorem vx_callSX (X : Stand p l e R s m args below meth c T locs cells slots) (hexec : p.tables.exec = Jvm.exec) {own : String} {index : Nat} {y : MethodName} {bytes : ByteArray} {maxL : Nat} {ret : Option FieldType} {hh : List (Nat × Nat × Nat × Nat)}
    (hown : s.vm.findClass own = some m.cls) (hlink : (Cond.methodLink own index y).before args s = true) (hstat : (Cond.static y).before args s = true) (hinit : (Cond.initialized y.cls).before args s = true)
    (hcode : (Cond.codeWith y bytes maxL ret hh).before args s = true) (hy : y.cls ≠ "java/lang/invoke/MethodHandle" ∧ y.cls ≠ "java/lang/invoke/VarHandle")
    {W9 : Nat} {Pre : Pt → Array Value → Prop} {Post : Pt → Array Value → Option Value → Pt → Prop} {PostX : Pt → Array Value → Addr → Pt → Prop} (hK : vx_Back l R p e below s args y 3 W9 Pre Post PostX)
    {g : JFrame} (hg : g.method = m) (hsize : g.locals.size = c.maxLocals) {argsL rest : List Value} (hlen : ∀ sig, parseMethodDescriptor y.desc = some sig → argsL.length = sig.parameters.length)
    (hstack : g.stack = argsL.reverse ++ rest) (hW : 2 * g.monitorRoom + (rest.map fun v => v.category).sum ≤ W9) (hdg : decode c.code g.pc = .ok (.invokestatic index, 3))
    (hpre : ∀ vm₁, s.WarmedH vm₁ → Pre ⟨T.setVm vm₁, locs, cells, slots⟩ argsL.toArray) :
    (∃ (v : Option Value) (vm₁ : Vm) (B : Pt), s.WarmedH vm₁ ∧ Stand p l e R s m args below meth c B.U B.locs B.cells B.slots ∧ Post ⟨T.setVm vm₁, locs, cells, slots⟩ argsL.toArray v B ∧
      ∀ target, Steps p.tables e below (B.U.setTop { g with pc := g.pc + 3, stack := v.toList ++ rest }) target → Steps p.tables e below (T.setTop g) target) ∨
    (∃ (q : Addr) (vm₁ : Vm) (B : Pt), s.WarmedH vm₁ ∧ Stand p l e R s m args below meth c B.U B.locs B.cells B.slots ∧ PostX ⟨T.setVm vm₁, locs, cells, slots⟩ argsL.toArray q B ∧
      Steps p.tables e below (T.setTop g) ((B.U.setTop { g with stack := rest }).pushFrame (.throwing q))) := by
  obtain ⟨mk, methM, cM, hnamed, hmethM, -, -, -, -, -, -, hsigM⟩ := Cond.codeWith_spec hcode
  have hstatic : methM.isStatic = true := Cond.static_spec hnamed hmethM hstat
  obtain ⟨kP, hkP, -⟩ := className_of_methodNamed hnamed
  have hinitP : kP.init = .initialized := Cond.initialized_spec (findClass_of_methodNamed hnamed) hkP hinit
  obtain ⟨vm₁, X₁, hstep₁⟩ := X.invokestatic hexec hown hlink hnamed hmethM hstatic hkP hinitP hy (g := g) hg (argsL := argsL) (rest := rest) (hlen _ hsigM) hstack hdg
  rcases hK m meth c ⟨T.setVm vm₁, locs, cells, slots⟩ { g with stack := rest } (.invokestatic index) mk argsL.toArray X₁ hg hsize hdg hW (X₁.named hnamed) (hpre vm₁ X₁.warmed) with ⟨v, B, X', hpost, hsteps⟩ | ⟨q, B, X', hpost, hsteps⟩
  · exact Or.inl ⟨v, vm₁, B, X₁.warmed, X', hpost, fun target h => hstep₁ _ fun acts => by rw [doInvoke_state]; exact hsteps.trans h⟩
  · exact Or.inr ⟨q, vm₁, B, X₁.warmed, X', hpost, hstep₁ _ fun acts => by rw [doInvoke_state]; exact hsteps⟩
theorem vx_callVW (X : Stand p l e R s m args below meth c T locs cells slots) (hexec : p.tables.exec = Jvm.exec) {own C : String} {index : Nat} {y : MethodName} {bytes : ByteArray} {maxL : Nat} {ret : Option FieldType} {hh : List (Nat × Nat × Nat × Nat)}
    (hown : s.vm.findClass own = some m.cls) (hlink : (Cond.methodLink own index y).before args s = true) (hinst : (Cond.instanceMethod y).before args s = true) (hsel : (Cond.selects C y y).before args s = true)
    (hcode : (Cond.codeWith y bytes maxL ret hh).before args s = true) (hy : y.cls ≠ "java/lang/invoke/MethodHandle" ∧ y.cls ≠ "java/lang/invoke/VarHandle")
    {W9 : Nat} {Pre : Pt → Array Value → Prop} {Post : Pt → Array Value → Option Value → Pt → Prop} (hK : Back l R p e below s args y 3 W9 Pre Post)
    {b : Addr} {cellB : Cell} (hcell : T.heap[b]? = some cellB) (hobj : cellB.vm.isStatics = false) (hcls : s.vm.findClass C = some cellB.cls)
    {g : JFrame} (hg : g.method = m) (hsize : g.locals.size = c.maxLocals) {argsL rest : List Value} (hlen : ∀ sig, parseMethodDescriptor y.desc = some sig → argsL.length = sig.parameters.length)
    (hstack : g.stack = argsL.reverse ++ .ref b :: rest) (hW : 2 * g.monitorRoom + (rest.map fun v => v.category).sum ≤ W9) (hdg : decode c.code g.pc = .ok (.invokevirtual index, 3))
    (hpre : ∀ vm₁, s.WarmedH vm₁ → Pre ⟨T.setVm vm₁, locs, cells, slots⟩ (Value.ref b :: argsL).toArray) :
    ∃ (v : Option Value) (vm₁ : Vm) (B : Pt), s.WarmedH vm₁ ∧ Stand p l e R s m args below meth c B.U B.locs B.cells B.slots ∧ Post ⟨T.setVm vm₁, locs, cells, slots⟩ (Value.ref b :: argsL).toArray v B ∧
      ∀ target, Steps p.tables e below (B.U.setTop { g with pc := g.pc + 3, stack := v.toList ++ rest }) target → Steps p.tables e below (T.setTop g) target := by
  obtain ⟨mk, methM, hnamed, hmethM, hstM, habM⟩ := Cond.instanceMethod_spec hinst
  obtain ⟨m8, methM', cM, hn8, hmethM', -, -, -, -, -, -, hsigM⟩ := Cond.codeWith_spec hcode
  cases Option.some.inj (hn8.symm.trans hnamed)
  cases hmethM.symm.trans hmethM'
  obtain ⟨c2, r2, m2, q1, q2, q3, q4, kP, hkP, hkPi⟩ := Cond.selects_spec hsel
  cases hcls.symm.trans q1
  cases (State.methodFound?_of_named hnamed hy).symm.trans q2
  cases hnamed.symm.trans q3
  have hselP : selectMethod e.platform s.vm cellB.cls mk = .method mk := by rw [Launch.admits_selectMethod X.admits]; exact q4
  obtain ⟨vm₁, X₁, hstep₁⟩ := X.invokevirtual hexec hown hlink hnamed hmethM hstM hkP hkPi hy (a := b) (cell := cellB) hcell
    (fun z h => by rw [h] at hobj; cases hobj) hselP hmethM habM hkP hkPi (g := g) hg (argsL := argsL) (rest := rest) (hlen _ hsigM) hstack hdg
  obtain ⟨v, B, X', hpost, hsteps⟩ := hK m meth c ⟨T.setVm vm₁, locs, cells, slots⟩ { g with stack := rest } (.invokevirtual index) mk (Value.ref b :: argsL).toArray X₁ hg hsize hdg hW (X₁.named hnamed) (hpre vm₁ X₁.warmed)
  exact ⟨v, vm₁, B, X₁.warmed, X', hpost, fun target h => hstep₁ _ fun acts => by rw [doInvoke_state]; exact hsteps.trans h⟩
abbrev vx_CVW (R : Room) (s : State) (args : Array Value) (own C : String) (index : Nat) (y : MethodName) (bytes : ByteArray) (maxL : Nat) (ret : Option FieldType) (hh : List (Nat × Nat × Nat × Nat)) (ws : List Cond) (rm : Room) (mc ms n : Nat) : Prop :=
  (rm.cells = mc ∧ rm.slots = ms ∧ rm.frames + 1 ≤ R.frames ∧ 8 + (maxL + 11) + rm.locals ≤ R.locals ∧ (∀ w ∈ ws, ∀ (a' : Array Value) (U : State), s.WarmedH U.vm → w.before a' U = true) ∧ Cond.codeWith y bytes maxL ret hh ∈ ws) ∧
  (Cond.codeWith y bytes maxL ret hh).before args s = true ∧ (Cond.initialized y.cls).before args s = true ∧ (y.cls ≠ "java/lang/invoke/MethodHandle" ∧ y.cls ≠ "java/lang/invoke/VarHandle") ∧
  (∀ sig, parseMethodDescriptor y.desc = some sig → n = sig.parameters.length) ∧ (Cond.methodLink own index y).before args s = true ∧ (Cond.instanceMethod y).before args s = true ∧ (Cond.selects C y y).before args s = true
theorem vx_cwVW {own C : String} {index maxL mc ms : Nat} {y : MethodName} {bytes : ByteArray} {ret : Option FieldType} {hh : List (Nat × Nat × Nat × Nat)} {Ts ws ws' : List Cond} {rm : Room} (n : Nat) (ht : ∀ w ∈ Ts, w.before args s = true) (hT : GoodIn Ts (wsV own index C y ws)) (hw : ws = Cond.codeWith y bytes maxL ret hh :: ws') (hrc : rm.cells = mc) (hrs : rm.slots = ms)
    (hd : y.cls = C ∧ y.cls ≠ "java/lang/invoke/MethodHandle" ∧ y.cls ≠ "java/lang/invoke/VarHandle" ∧ (parseMethodDescriptor y.desc).map (fun d => d.parameters.length) = some n) (hR : rm.frames + 1 ≤ R.frames ∧ 8 + (maxL + 11) + rm.locals ≤ R.locals) :
    vx_CVW R s args own C index y bytes maxL ret hh ws rm mc ms n := by
  obtain ⟨hC, hd⟩ := hd
  subst hC
  have ok : ∀ w ∈ wsV own index y.cls y ws, w.before args s = true := fun w h => ht w (hT w h).1
  have hG : GoodIn Ts ws := fun w h => hT w (by unfold wsV; exact List.mem_append_right _ h)
  have hc : Cond.codeWith y bytes maxL ret hh ∈ ws := by rw [hw]; exact List.mem_cons_self
  refine ⟨⟨hrc, hrs, hR.1, hR.2, pay_in ht hG, hc⟩, ht _ (hG _ hc).1, ok _ (by simp [wsV]), ⟨hd.1, hd.2.1⟩, fun sig h => ?_, ok _ (by simp [wsV]), ok _ (by simp [wsV]), ok _ (by simp [wsV])⟩
  have h2 := hd.2.2
  rw [h] at h2
  exact (Option.some.inj h2).symm
theorem vx_runVW {y : MethodName} {bytes cc : ByteArray} {maxL nL mc ms n index : Nat} {ret : Option FieldType} {hh : List (Nat × Nat × Nat × Nat)} {ws : List Cond} {rm : Room} {Pc : Array Value → State → Prop} {Qc : Array Value → State → Outcome → State → Prop} {free : Addr → Prop} {Ts : List Cond} {own C : String} {b : Addr} {As rest : List Value} {g : JFrame}
    (S : CallFix p m c cc nL s args Ts own) (hM : Met l y ws rm Pc Qc mc ms free) (cw : vx_CVW R s args own C index y bytes maxL ret hh ws rm mc ms n) (hp : PreV s H C b Pc As)
    (hg : g.method = m) (hn : As.length = n) (hsize : g.locals.size = nL) (hstack : g.stack = As.reverse ++ .ref b :: rest) (hW : 2 * g.monitorRoom + (rest.map fun v => v.category).sum ≤ 8) (hdg : decode cc g.pc = .ok (.invokevirtual index, 3)) (hf : cells + mc ≤ R.cells ∧ slots + ms ≤ R.slots) :
    va_Run p l e R s m args below meth c H locs cells slots mc ms g rest (Qc (Value.ref b :: As).toArray) free := by
  obtain ⟨⟨hrc, hrs, hfr, hlo, hws, hcw⟩, hcode, hini, hy, hlen, hl, hin, hse⟩ := cw
  have hK : Back l R p e below s args y 3 8 (PreOf R mc ms Pc) (PostOf Qc mc ms free) := va_backW (hh := hh) (bytes := bytes) (maxL := maxL) (ret := ret) hM hp.1 hrc hrs hfr hlo hws hcw (fun a' U hW => word_at hW (Or.inl (by first | rfl | simp [Cond.onTables, Cond.keeps, Cond.steady])) hini)
  obtain ⟨hx, hb, hml, ho, -⟩ := S
  obtain ⟨-, ⟨cellB, hcB, hoB, hclB⟩, hPc⟩ := hp
  intro T hT X
  obtain ⟨v, vm₁, ⟨U', l2, c2, s2⟩, hW₁, X', ⟨g', mk, t, L, e1, e2, hq, h1, hL, h2, h3⟩, st⟩ := vx_callVW X hx (C := C) (hh := hh) (bytes := bytes) (maxL := maxL) (ret := ret) ho hl hin hse hcode hy hK (by rw [hT]; exact hcB) hoB hclB hg (hsize.trans hml.symm) (argsL := As) (rest := rest) (fun sig h => hn.trans (hlen sig h)) hstack hW (by rw [hb]; exact hdg)
    (fun vm₁ hW₁ => ⟨hf.1, hf.2, hPc (T.setVm vm₁) hT hW₁⟩)
  dsimp only [Pt.U, Pt.locs, Pt.cells, Pt.slots] at X' e1 e2 h1 h2 h3 st
  subst h1; subst h2; subst h3
  exact ⟨v, (T.setVm vm₁).calling g' mk (Value.ref b :: As).toArray, t, U', L, hT, X', hL, e1, e2, hq, st⟩
section
variable {y : MethodName} {bytes cc : ByteArray} {maxL nL mc ms n index : Nat} {ret : Option FieldType} {ws : List Cond} {rm : Room} {Pc : Array Value → State → Prop} {Qc : Array Value → State → Outcome → State → Prop} {XC : String → State → State → Prop} {free : Addr → Prop} {Ts : List Cond} {own C : String} {b : Addr} {As rest : List Value} {g : JFrame}
theorem vx_runVX {hh : List (Nat × Nat × Nat × Nat)} (S : CallFix p m c cc nL s args Ts own) (hM : vx_Met l y ws rm Pc Qc XC mc ms free) (cw : vx_CVW R s args own C index y bytes maxL ret hh ws rm mc ms n) (hp : PreV s H C b Pc As)
    (hg : g.method = m) (hn : As.length = n) (hsize : g.locals.size = nL) (hstack : g.stack = As.reverse ++ .ref b :: rest) (hW : 2 * g.monitorRoom + (rest.map fun v => v.category).sum ≤ 8) (hdg : decode cc g.pc = .ok (.invokevirtual index, 3)) (hf : cells + mc ≤ R.cells ∧ slots + ms ≤ R.slots) :
    vx_Run p l e R s m args below meth c H locs cells slots mc ms g rest (Qc (Value.ref b :: As).toArray) XC free := by
  obtain ⟨⟨hrc, hrs, hfr, hlo, hws, hcw⟩, hcode, hini, hy, hlen, hl, hin, hse⟩ := cw
  have hK : vx_Back l R p e below s args y 3 8 (PreOf R mc ms Pc) (PostOf Qc mc ms free) (vx_Post XC mc ms free) := vx_backW (hh := hh) (bytes := bytes) (maxL := maxL) (ret := ret) hM hp.1 hrc hrs hfr hlo hws hcw (fun a' U hW => word_at hW (Or.inl (by first | rfl | simp [Cond.onTables, Cond.keeps, Cond.steady])) hini)
  obtain ⟨hx, hb, hml, ho, -⟩ := S
  obtain ⟨-, ⟨cellB, hcB, hoB, hclB⟩, hPc⟩ := hp
  intro T hT X
  rcases vx_callVX X hx (C := C) (hh := hh) (bytes := bytes) (maxL := maxL) (ret := ret) ho hl hin hse hcode hy hK (by rw [hT]; exact hcB) hoB hclB hg (hsize.trans hml.symm) (argsL := As) (rest := rest) (fun sig h => hn.trans (hlen sig h)) hstack hW (by rw [hb]; exact hdg)
    (fun vm₁ hW₁ => ⟨hf.1, hf.2, hPc (T.setVm vm₁) hT hW₁⟩) with ⟨v, vm₁, ⟨U', l2, c2, s2⟩, hW₁, X', ⟨g', mk, t, L, e1, e2, hq, h1, hL, h2, h3⟩, st⟩ | ⟨q, vm₁, ⟨U', l2, c2, s2⟩, hW₁, X', ⟨g', mk, t, L, E, ce, e1, e2, hq, hce, hcv, hcl, h1, hL, h2, h3⟩, st⟩
  · dsimp only [Pt.U, Pt.locs, Pt.cells, Pt.slots] at X' e1 e2 h1 h2 h3 st
    subst h1; subst h2; subst h3
    exact Or.inl ⟨v, (T.setVm vm₁).calling g' mk (Value.ref b :: As).toArray, t, U', L, hT, X', hL, e1, e2, hq, st⟩
  · dsimp only [Pt.U, Pt.locs, Pt.cells, Pt.slots] at X' e1 e2 h1 h2 h3 st hcl
    subst h1; subst h2; subst h3
    exact Or.inr ⟨q, (T.setVm vm₁).calling g' mk (Value.ref b :: As).toArray, t, U', L, E, ce, hT, X', hL, e1, e2, hq, hce, hcv, vx_cls hW₁ hcl, st⟩
theorem vx_runSX {hh : List (Nat × Nat × Nat × Nat)} (S : CallFix p m c cc nL s args Ts own) (hM : vx_Met l y ws rm Pc Qc XC mc ms free) (cw : vx_CSW R s args own index y bytes maxL ret hh ws rm mc ms n) (hp : PreS s H Pc As)
    (hg : g.method = m) (hn : As.length = n) (hsize : g.locals.size = nL) (hstack : g.stack = As.reverse ++ rest) (hW : 2 * g.monitorRoom + (rest.map fun v => v.category).sum ≤ 8) (hdg : decode cc g.pc = .ok (.invokestatic index, 3)) (hf : cells + mc ≤ R.cells ∧ slots + ms ≤ R.slots) :
    vx_Run p l e R s m args below meth c H locs cells slots mc ms g rest (Qc As.toArray) XC free := by
  obtain ⟨⟨hrc, hrs, hfr, hlo, hws, hcw⟩, hcode, hini, hy, hlen, hl, hstt⟩ := cw
  have hK : vx_Back l R p e below s args y 3 8 (PreOf R mc ms Pc) (PostOf Qc mc ms free) (vx_Post XC mc ms free) := vx_backW (hh := hh) (bytes := bytes) (maxL := maxL) (ret := ret) hM hp.1 hrc hrs hfr hlo hws hcw (fun a' U hW => word_at hW (Or.inl (by first | rfl | simp [Cond.onTables, Cond.keeps, Cond.steady])) hini)
  obtain ⟨hx, hb, hml, ho, -⟩ := S
  intro T hT X
  rcases vx_callSX X hx (hh := hh) (bytes := bytes) (maxL := maxL) (ret := ret) ho hl hstt hini hcode hy hK hg (hsize.trans hml.symm) (argsL := As) (rest := rest) (fun sig h => hn.trans (hlen sig h)) hstack hW (by rw [hb]; exact hdg)
    (fun vm₁ hW₁ => ⟨hf.1, hf.2, hp.2 (T.setVm vm₁) hT hW₁⟩) with ⟨v, vm₁, ⟨U', l2, c2, s2⟩, hW₁, X', ⟨g', mk, t, L, e1, e2, hq, h1, hL, h2, h3⟩, st⟩ | ⟨q, vm₁, ⟨U', l2, c2, s2⟩, hW₁, X', ⟨g', mk, t, L, E, ce, e1, e2, hq, hce, hcv, hcl, h1, hL, h2, h3⟩, st⟩
  · dsimp only [Pt.U, Pt.locs, Pt.cells, Pt.slots] at X' e1 e2 h1 h2 h3 st
    subst h1; subst h2; subst h3
    exact Or.inl ⟨v, (T.setVm vm₁).calling g' mk As.toArray, t, U', L, hT, X', hL, e1, e2, hq, st⟩
  · dsimp only [Pt.U, Pt.locs, Pt.cells, Pt.slots] at X' e1 e2 h1 h2 h3 st hcl
    subst h1; subst h2; subst h3
    exact Or.inr ⟨q, (T.setVm vm₁).calling g' mk As.toArray, t, U', L, E, ce, hT, X', hL, e1, e2, hq, hce, hcv, vx_cls hW₁ hcl, st⟩
end
end VXH
theorem vx_ofWH {l : Launch} {y : MethodName} {ws ws' : List Cond} {rm : Room} {Pc : Array Value → State → Prop} {Qc : Array Value → State → Outcome → State → Prop} {XC : String → State → State → Prop} {mc ms : Nat} {free : Addr → Prop} {cc : ByteArray} {maxL : Nat} {ret : Option FieldType} {hh : List (Nat × Nat × Nat × Nat)}
    (hy : plainName y.cls = true) (hw : ws = Cond.codeWith y cc maxL ret hh :: ws')
    (body : ∀ p e s m args below meth c s₁, BodyLoose p l y (headSpec ws rm) cc maxL ret e s m args below meth c s₁ → c.maxLocals = maxL → Pc args s →
      W p l e (headSpec ws rm).room s m args below meth c s.heap [] 0 0 (vx_MQ below Qc XC args s mc ms free) (entryFrame m args maxL)) : vx_Met l y ws rm Pc Qc XC mc ms free := by
  refine MetFree.of_bodyS (code := cc) (maxLocals := maxL) (ret := ret) hy ?_ ?_
  · intro args s m h hn
    obtain ⟨m9, meth, c, hn9, h1, h2, h3, h4, -, h5, h6, -⟩ := Cond.codeWith_spec (atoms_spec (ws := ws) h _ (by rw [hw]; exact List.mem_cons_self))
    cases hn.symm.trans hn9
    exact ⟨meth, c, h1, h2, h3, h4, h5, h6⟩
  · intro p e s m args below meth c s₁ B hml hP _
    have hh0 : s₁.heap = s.heap := by rw [B.state]; rfl
    obtain ⟨t, a1, o, b1, b2, b3⟩ := body p e s m args below meth c s₁ B hml hP s₁ hh0 (Stand.of_body B)
    exact ⟨t, o, a1, b1, b2, b3⟩
/-! ===== END ===== -/

/-! ===== BEGIN printed: names, fields, word lists, decode rows ===== -/
def RX0 : String := "TidegateBourse"
def TX0 : u_T := fun k => match k with
  | 0 => ("TidegateBourse", "levels", "[I", true)
  | 1 => ("TidegateBourse", "prices", "[I", true)
  | 2 => ("TidegateBourse", "gates", "[I", true)
  | 3 => ("TidegateBourse", "wears", "[I", true)
  | 4 => ("TidegateBourse", "repairEnds", "[I", true)
  | 5 => ("TidegateBourse", "notes", "[I", true)
  | 6 => ("TidegateBourse", "madeUnits", "[I", true)
  | 7 => ("TidegateBourse", "soldUnits", "[I", true)
  | 8 => ("TidegateBourse", "windNow", "I", false)
  | 9 => ("TidegateBourse", "turbines", "I", false)
  | 10 => ("TidegateBourse", "fishTold", "I", false)
  | 11 => ("TidegateBourse", "fishLimit", "I", false)
  | 12 => ("TidegateBourse", "closedEnd", "I", false)
  | 13 => ("TidegateBourse", "nextHour", "I", false)
  | _ => ("TidegateBourse", "balance", "F", false)
def tyX0 : Nat → FieldType := fun k => match k with
  | 0 => .array .int
  | 1 => .array .int
  | 2 => .array .int
  | 3 => .array .int
  | 4 => .array .int
  | 5 => .array .int
  | 6 => .array .int
  | 7 => .array .int
  | 8 => .int
  | 9 => .int
  | 10 => .int
  | 11 => .int
  | 12 => .int
  | 13 => .int
  | _ => .float
abbrev wsX00 : List Cond := u_ws RX0 TX0 15
theorem nmX0 : ∀ a, a < 15 → ∀ b, b < 15 → a ≠ b → (TX0 a).2.1 ≠ (TX0 b).2.1 := by decide +kernel
theorem tyX0_ok : ∀ k, k < 15 → parseFieldDescriptor (TX0 k).2.2.1 = some (tyX0 k) := by decide +kernel
abbrev cX0_init : ByteArray := prog_1_method_1_code
def yX0_init : MethodName := ⟨RX0, "<init>", "()V"⟩
abbrev cX0_tide : ByteArray := prog_1_method_2_code
def yX0_tide : MethodName := ⟨RX0, "tide", "(II)I"⟩
abbrev cX0_price : ByteArray := prog_1_method_3_code
def yX0_price : MethodName := ⟨RX0, "price", "(II)I"⟩
abbrev cX0_wind : ByteArray := prog_1_method_4_code
def yX0_wind : MethodName := ⟨RX0, "wind", "(I)I"⟩
abbrev cX0_turbine : ByteArray := prog_1_method_5_code
def yX0_turbine : MethodName := ⟨RX0, "turbine", "()I"⟩
abbrev cX0_gate : ByteArray := prog_1_method_6_code
def yX0_gate : MethodName := ⟨RX0, "gate", "(II)I"⟩
abbrev cX0_repair : ByteArray := prog_1_method_7_code
def yX0_repair : MethodName := ⟨RX0, "repair", "(I)I"⟩
abbrev cX0_run : ByteArray := prog_1_method_8_code
def yX0_run : MethodName := ⟨RX0, "run", "(I)Z"⟩
abbrev cX0_limit : ByteArray := prog_1_method_9_code
def yX0_limit : MethodName := ⟨RX0, "limit", "(I)I"⟩
abbrev cX0_sell : ByteArray := prog_1_method_10_code
def yX0_sell : MethodName := ⟨RX0, "sell", "(III)I"⟩
abbrev cX0_pass : ByteArray := prog_1_method_11_code
def yX0_pass : MethodName := ⟨RX0, "pass", "(I)I"⟩
abbrev cX0_now : ByteArray := prog_1_method_12_code
def yX0_now : MethodName := ⟨RX0, "now", "()I"⟩
abbrev cX0_made : ByteArray := prog_1_method_13_code
def yX0_made : MethodName := ⟨RX0, "made", "(I)I"⟩
abbrev cX0_madeAnew : ByteArray := prog_1_method_14_code
def yX0_madeAnew : MethodName := ⟨RX0, "madeAnew", "(I)I"⟩
abbrev cX0_sold : ByteArray := prog_1_method_15_code
def yX0_sold : MethodName := ⟨RX0, "sold", "(I)I"⟩
abbrev cX0_bought : ByteArray := prog_1_method_16_code
def yX0_bought : MethodName := ⟨RX0, "bought", "(I)I"⟩
abbrev cX0_head : ByteArray := prog_1_method_17_code
def yX0_head : MethodName := ⟨RX0, "head", "(I)I"⟩
abbrev cX0_about : ByteArray := prog_1_method_18_code
def yX0_about : MethodName := ⟨RX0, "about", "(II)I"⟩
abbrev cX0_closed : ByteArray := prog_1_method_19_code
def yX0_closed : MethodName := ⟨RX0, "closed", "()I"⟩
abbrev cX0_money : ByteArray := prog_1_method_20_code
def yX0_money : MethodName := ⟨RX0, "money", "()I"⟩
abbrev cX0_goBy : ByteArray := prog_1_method_21_code
def yX0_goBy : MethodName := ⟨RX0, "goBy", "(I)V"⟩
abbrev cX0_noteFor : ByteArray := prog_1_method_22_code
def yX0_noteFor : MethodName := ⟨RX0, "noteFor", "(I)I"⟩
abbrev cX0_makeUnits : ByteArray := prog_1_method_23_code
def yX0_makeUnits : MethodName := ⟨RX0, "makeUnits", "(II)I"⟩
abbrev cX0_settle : ByteArray := prog_1_method_24_code
def yX0_settle : MethodName := ⟨RX0, "settle", "(I)V"⟩
abbrev cX0_worth : ByteArray := prog_1_method_25_code
def yX0_worth : MethodName := ⟨RX0, "worth", "(II)F"⟩
abbrev cX0_works : ByteArray := prog_1_method_26_code
def yX0_works : MethodName := ⟨RX0, "works", "(IIII)Z"⟩
abbrev cX0_unitsOf : ByteArray := prog_1_method_27_code
def yX0_unitsOf : MethodName := ⟨RX0, "unitsOf", "(III)I"⟩
abbrev cX0_wearAfter : ByteArray := prog_1_method_28_code
def yX0_wearAfter : MethodName := ⟨RX0, "wearAfter", "(III)I"⟩
abbrev cX0_unitsFromNotes : ByteArray := prog_1_method_29_code
def yX0_unitsFromNotes : MethodName := ⟨RX0, "unitsFromNotes", "(II)I"⟩
abbrev cX0_notedHead : ByteArray := prog_1_method_30_code
def yX0_notedHead : MethodName := ⟨RX0, "notedHead", "(I)I"⟩
abbrev cX0_notedGate : ByteArray := prog_1_method_31_code
def yX0_notedGate : MethodName := ⟨RX0, "notedGate", "(II)I"⟩
abbrev cX0_notedRepair : ByteArray := prog_1_method_32_code
def yX0_notedRepair : MethodName := ⟨RX0, "notedRepair", "(II)Z"⟩
abbrev cX0_notedRun : ByteArray := prog_1_method_33_code
def yX0_notedRun : MethodName := ⟨RX0, "notedRun", "(I)Z"⟩
abbrev cX0_requireIndex : ByteArray := prog_1_method_34_code
def yX0_requireIndex : MethodName := ⟨RX0, "requireIndex", "(III)V"⟩
abbrev cX0_requireRange : ByteArray := prog_1_method_35_code
def yX0_requireRange : MethodName := ⟨RX0, "requireRange", "(III)V"⟩
abbrev cX0_bitsOf : ByteArray := prog_1_method_36_code
def yX0_bitsOf : MethodName := ⟨RX0, "bitsOf", "(F)I"⟩
def RX1 : String := "TidegateBourseModel"
def TX1 : u_T := fun k => match k with
  | 0 => ("TidegateBourseModel", "thrown", "I", false)
  | 1 => ("TidegateBourseModel", "now", "I", false)
  | 2 => ("TidegateBourseModel", "levels", "[I", true)
  | 3 => ("TidegateBourseModel", "prices", "[I", true)
  | 4 => ("TidegateBourseModel", "wind", "I", false)
  | 5 => ("TidegateBourseModel", "turbines", "I", false)
  | 6 => ("TidegateBourseModel", "gates", "[I", true)
  | 7 => ("TidegateBourseModel", "wears", "[I", true)
  | 8 => ("TidegateBourseModel", "repairs", "[I", true)
  | 9 => ("TidegateBourseModel", "fish", "I", false)
  | 10 => ("TidegateBourseModel", "limit", "I", false)
  | 11 => ("TidegateBourseModel", "closed", "I", false)
  | 12 => ("TidegateBourseModel", "sold", "[I", true)
  | 13 => ("TidegateBourseModel", "made", "[I", true)
  | 14 => ("TidegateBourseModel", "bought", "[I", true)
  | 15 => ("TidegateBourseModel", "heads", "[I", true)
  | _ => ("TidegateBourseModel", "money", "F", false)
def tyX1 : Nat → FieldType := fun k => match k with
  | 0 => .int
  | 1 => .int
  | 2 => .array .int
  | 3 => .array .int
  | 4 => .int
  | 5 => .int
  | 6 => .array .int
  | 7 => .array .int
  | 8 => .array .int
  | 9 => .int
  | 10 => .int
  | 11 => .int
  | 12 => .array .int
  | 13 => .array .int
  | 14 => .array .int
  | 15 => .array .int
  | _ => .float
abbrev wsX10 : List Cond := u_ws RX1 TX1 17
theorem nmX1 : ∀ a, a < 17 → ∀ b, b < 17 → a ≠ b → (TX1 a).2.1 ≠ (TX1 b).2.1 := by decide +kernel
theorem tyX1_ok : ∀ k, k < 17 → parseFieldDescriptor (TX1 k).2.2.1 = some (tyX1 k) := by decide +kernel
abbrev cX1_init : ByteArray := prog_3_method_1_code
def yX1_init : MethodName := ⟨RX1, "<init>", "()V"⟩
abbrev cX1_thrown : ByteArray := prog_3_method_2_code
def yX1_thrown : MethodName := ⟨RX1, "thrown", "()I"⟩
abbrev cX1_isIn : ByteArray := prog_3_method_3_code
def yX1_isIn : MethodName := ⟨RX1, "isIn", "(III)Z"⟩
abbrev cX1_isTurbine : ByteArray := prog_3_method_4_code
def yX1_isTurbine : MethodName := ⟨RX1, "isTurbine", "(I)Z"⟩
abbrev cX1_tide : ByteArray := prog_3_method_5_code
def yX1_tide : MethodName := ⟨RX1, "tide", "(II)I"⟩
abbrev cX1_price : ByteArray := prog_3_method_6_code
def yX1_price : MethodName := ⟨RX1, "price", "(II)I"⟩
abbrev cX1_wind : ByteArray := prog_3_method_7_code
def yX1_wind : MethodName := ⟨RX1, "wind", "(I)I"⟩
abbrev cX1_turbine : ByteArray := prog_3_method_8_code
def yX1_turbine : MethodName := ⟨RX1, "turbine", "()I"⟩
abbrev cX1_gate : ByteArray := prog_3_method_9_code
def yX1_gate : MethodName := ⟨RX1, "gate", "(II)I"⟩
abbrev cX1_repair : ByteArray := prog_3_method_10_code
def yX1_repair : MethodName := ⟨RX1, "repair", "(I)I"⟩
abbrev cX1_run : ByteArray := prog_3_method_11_code
def yX1_run : MethodName := ⟨RX1, "run", "(I)Z"⟩
abbrev cX1_limit : ByteArray := prog_3_method_12_code
def yX1_limit : MethodName := ⟨RX1, "limit", "(I)I"⟩
abbrev cX1_sell : ByteArray := prog_3_method_13_code
def yX1_sell : MethodName := ⟨RX1, "sell", "(III)I"⟩
abbrev cX1_makes : ByteArray := prog_3_method_14_code
def yX1_makes : MethodName := ⟨RX1, "makes", "(II)I"⟩
abbrev cX1_goes : ByteArray := prog_3_method_15_code
def yX1_goes : MethodName := ⟨RX1, "goes", "()V"⟩
abbrev cX1_pass : ByteArray := prog_3_method_16_code
def yX1_pass : MethodName := ⟨RX1, "pass", "(I)I"⟩
abbrev cX1_now : ByteArray := prog_3_method_17_code
def yX1_now : MethodName := ⟨RX1, "now", "()I"⟩
abbrev cX1_isGone : ByteArray := prog_3_method_18_code
def yX1_isGone : MethodName := ⟨RX1, "isGone", "(I)Z"⟩
abbrev cX1_made : ByteArray := prog_3_method_19_code
def yX1_made : MethodName := ⟨RX1, "made", "(I)I"⟩
abbrev cX1_madeAnew : ByteArray := prog_3_method_20_code
def yX1_madeAnew : MethodName := ⟨RX1, "madeAnew", "(I)I"⟩
abbrev cX1_sold : ByteArray := prog_3_method_21_code
def yX1_sold : MethodName := ⟨RX1, "sold", "(I)I"⟩
abbrev cX1_bought : ByteArray := prog_3_method_22_code
def yX1_bought : MethodName := ⟨RX1, "bought", "(I)I"⟩
abbrev cX1_head : ByteArray := prog_3_method_23_code
def yX1_head : MethodName := ⟨RX1, "head", "(I)I"⟩
abbrev cX1_about : ByteArray := prog_3_method_24_code
def yX1_about : MethodName := ⟨RX1, "about", "(II)I"⟩
abbrev cX1_closed : ByteArray := prog_3_method_25_code
def yX1_closed : MethodName := ⟨RX1, "closed", "()I"⟩
abbrev cX1_money : ByteArray := prog_3_method_26_code
def yX1_money : MethodName := ⟨RX1, "money", "()I"⟩
def RJxf58ca : String := "java/lang/Float"
def TJxf58ca : u_T := fun k => match k with
  | _ => ("", "", "", false)
def tyJxf58ca : Nat → FieldType := fun k => match k with
  | _ => .int
abbrev wsJxf58ca0 : List Cond := u_ws RJxf58ca TJxf58ca 0
theorem nmJxf58ca : ∀ a, a < 0 → ∀ b, b < 0 → a ≠ b → (TJxf58ca a).2.1 ≠ (TJxf58ca b).2.1 := by decide +kernel
theorem tyJxf58ca_ok : ∀ k, k < 0 → parseFieldDescriptor (TJxf58ca k).2.2.1 = some (tyJxf58ca k) := by decide +kernel
abbrev cJxf58ca_isNaN_12338 : ByteArray := prog_5_method_6_code
def yJxf58ca_isNaN_12338 : MethodName := ⟨RJxf58ca, "isNaN", "(F)Z"⟩
abbrev cJxf58ca_floatToIntBits_5c35a : ByteArray := prog_5_method_24_code
def yJxf58ca_floatToIntBits_5c35a : MethodName := ⟨RJxf58ca, "floatToIntBits", "(F)I"⟩
def RJ9 : String := "java/lang/Math"
def TJ9 : u_T := fun k => match k with
  | _ => ("", "", "", false)
def tyJ9 : Nat → FieldType := fun k => match k with
  | _ => .int
abbrev wsJ90 : List Cond := u_ws RJ9 TJ9 0
theorem nmJ9 : ∀ a, a < 0 → ∀ b, b < 0 → a ≠ b → (TJ9 a).2.1 ≠ (TJ9 b).2.1 := by decide +kernel
theorem tyJ9_ok : ∀ k, k < 0 → parseFieldDescriptor (TJ9 k).2.2.1 = some (tyJ9 k) := by decide +kernel
abbrev cJ9_abs_0f7a4 : ByteArray := prog_9_method_59_code
def yJ9_abs_0f7a4 : MethodName := ⟨RJ9, "abs", "(I)I"⟩
abbrev cJ9_max_7cf53 : ByteArray := prog_9_method_65_code
def yJ9_max_7cf53 : MethodName := ⟨RJ9, "max", "(II)I"⟩
abbrev cJ9_min_7cf53 : ByteArray := prog_9_method_69_code
def yJ9_min_7cf53 : MethodName := ⟨RJ9, "min", "(II)I"⟩
def RJ0 : String := "java/lang/String"
def TJ0 : u_T := fun k => match k with
  | _ => ("", "", "", false)
def tyJ0 : Nat → FieldType := fun k => match k with
  | _ => .int
abbrev wsJ00 : List Cond := u_ws RJ0 TJ0 0
theorem nmJ0 : ∀ a, a < 0 → ∀ b, b < 0 → a ≠ b → (TJ0 a).2.1 ≠ (TJ0 b).2.1 := by decide +kernel
theorem tyJ0_ok : ∀ k, k < 0 → parseFieldDescriptor (TJ0 k).2.2.1 = some (tyJ0 k) := by decide +kernel
def RL : String := "TidegateBourseLaw"
abbrev cL_tide : ByteArray := method_3_code
def yL_tide : MethodName := ⟨RL, "tide", "(LTidegateBourse;II[J)I"⟩
abbrev cL_price : ByteArray := method_4_code
def yL_price : MethodName := ⟨RL, "price", "(LTidegateBourse;II[J)I"⟩
abbrev cL_wind : ByteArray := method_5_code
def yL_wind : MethodName := ⟨RL, "wind", "(LTidegateBourse;I[J)I"⟩
abbrev cL_turbine : ByteArray := method_6_code
def yL_turbine : MethodName := ⟨RL, "turbine", "(LTidegateBourse;[J)I"⟩
abbrev cL_gate : ByteArray := method_7_code
def yL_gate : MethodName := ⟨RL, "gate", "(LTidegateBourse;II[J)I"⟩
abbrev cL_repair : ByteArray := method_8_code
def yL_repair : MethodName := ⟨RL, "repair", "(LTidegateBourse;I[J)I"⟩
abbrev cL_run : ByteArray := method_9_code
def yL_run : MethodName := ⟨RL, "run", "(LTidegateBourse;I[J)I"⟩
abbrev cL_limit : ByteArray := method_10_code
def yL_limit : MethodName := ⟨RL, "limit", "(LTidegateBourse;I[J)I"⟩
abbrev cL_sell : ByteArray := method_11_code
def yL_sell : MethodName := ⟨RL, "sell", "(LTidegateBourse;III[J)I"⟩
abbrev cL_pass : ByteArray := method_12_code
def yL_pass : MethodName := ⟨RL, "pass", "(LTidegateBourse;I[J)I"⟩
abbrev cL_made : ByteArray := method_13_code
def yL_made : MethodName := ⟨RL, "made", "(LTidegateBourse;I[J)I"⟩
abbrev cL_madeAnew : ByteArray := method_14_code
def yL_madeAnew : MethodName := ⟨RL, "madeAnew", "(LTidegateBourse;I[J)I"⟩
abbrev cL_sold : ByteArray := method_15_code
def yL_sold : MethodName := ⟨RL, "sold", "(LTidegateBourse;I[J)I"⟩
abbrev cL_bought : ByteArray := method_16_code
def yL_bought : MethodName := ⟨RL, "bought", "(LTidegateBourse;I[J)I"⟩
abbrev cL_head : ByteArray := method_17_code
def yL_head : MethodName := ⟨RL, "head", "(LTidegateBourse;I[J)I"⟩
abbrev cL_about : ByteArray := method_18_code
def yL_about : MethodName := ⟨RL, "about", "(LTidegateBourse;II[J)I"⟩
abbrev cL_law : ByteArray := code
def yL_law : MethodName := ⟨RL, "law", "([I)Z"⟩
def wsX0_init : List Cond := .code yX0_init cX0_init 2 none :: ([.methodLink RX0 3 objectInit, .instanceMethod objectInit, .code objectInit ⟨#[0xb1]⟩ 1 none, .arrayClass .int, .fieldLink RX0 9 "TidegateBourse" "levels" "[I", .fieldLink RX0 13 "TidegateBourse" "prices" "[I", .fieldLink RX0 16 "TidegateBourse" "gates" "[I", .fieldLink RX0 19 "TidegateBourse" "wears" "[I", .fieldLink RX0 22 "TidegateBourse" "repairEnds" "[I", .fieldLink RX0 25 "TidegateBourse" "notes" "[I", .fieldLink RX0 28 "TidegateBourse" "madeUnits" "[I", .fieldLink RX0 31 "TidegateBourse" "soldUnits" "[I", .fieldLink RX0 34 "TidegateBourse" "fishLimit" "I"] ++ wsX00)
def wsX0_requireIndex : List Cond := .code yX0_requireIndex cX0_requireIndex 3 none :: ([.classLink RX0 139 "java/lang/IndexOutOfBoundsException", .initialized "java/lang/IndexOutOfBoundsException"] ++ (vx_atS RX0 143 "java/lang/IndexOutOfBoundsException" ["java/lang/RuntimeException", "java/lang/Exception"]).filter goodWord)
def wsX0_requireRange : List Cond := .code yX0_requireRange cX0_requireRange 3 none :: ([.classLink RX0 144 "java/lang/IllegalArgumentException", .initialized "java/lang/IllegalArgumentException"] ++ (vx_atS RX0 148 "java/lang/IllegalArgumentException" ["java/lang/RuntimeException", "java/lang/Exception"]).filter goodWord)
def wsX0_tide : List Cond := .code yX0_tide cX0_tide 4 (some .int) :: ([.fieldLink RX0 9 "TidegateBourse" "levels" "[I", .methodLink RX0 38 yX0_requireIndex, .static yX0_requireIndex, .initialized RX0, .code yX0_requireIndex cX0_requireIndex 3 none, .classLink RX0 139 "java/lang/IndexOutOfBoundsException", .initialized "java/lang/IndexOutOfBoundsException", .methodLink RX0 42 yX0_requireRange, .static yX0_requireRange, .code yX0_requireRange cX0_requireRange 3 none, .classLink RX0 144 "java/lang/IllegalArgumentException", .initialized "java/lang/IllegalArgumentException"] ++ wsX00 ++ (vx_atS RX0 143 "java/lang/IndexOutOfBoundsException" ["java/lang/RuntimeException", "java/lang/Exception"]).filter goodWord ++ (vx_atS RX0 148 "java/lang/IllegalArgumentException" ["java/lang/RuntimeException", "java/lang/Exception"]).filter goodWord)
def wsX0_price : List Cond := .code yX0_price cX0_price 4 (some .int) :: ([.fieldLink RX0 13 "TidegateBourse" "prices" "[I", .methodLink RX0 38 yX0_requireIndex, .static yX0_requireIndex, .initialized RX0, .code yX0_requireIndex cX0_requireIndex 3 none, .classLink RX0 139 "java/lang/IndexOutOfBoundsException", .initialized "java/lang/IndexOutOfBoundsException", .methodLink RX0 42 yX0_requireRange, .static yX0_requireRange, .code yX0_requireRange cX0_requireRange 3 none, .classLink RX0 144 "java/lang/IllegalArgumentException", .initialized "java/lang/IllegalArgumentException"] ++ wsX00 ++ (vx_atS RX0 143 "java/lang/IndexOutOfBoundsException" ["java/lang/RuntimeException", "java/lang/Exception"]).filter goodWord ++ (vx_atS RX0 148 "java/lang/IllegalArgumentException" ["java/lang/RuntimeException", "java/lang/Exception"]).filter goodWord)
def wsX0_wind : List Cond := .code yX0_wind cX0_wind 3 (some .int) :: ([.fieldLink RX0 45 "TidegateBourse" "windNow" "I", .methodLink RX0 42 yX0_requireRange, .static yX0_requireRange, .initialized RX0, .code yX0_requireRange cX0_requireRange 3 none, .classLink RX0 144 "java/lang/IllegalArgumentException", .initialized "java/lang/IllegalArgumentException"] ++ wsX00 ++ (vx_atS RX0 148 "java/lang/IllegalArgumentException" ["java/lang/RuntimeException", "java/lang/Exception"]).filter goodWord)
def wsX0_turbine : List Cond := .code yX0_turbine cX0_turbine 1 (some .int) :: ([.classLink RX0 51 "java/lang/IllegalStateException", .initialized "java/lang/IllegalStateException", .fieldLink RX0 48 "TidegateBourse" "turbines" "I"] ++ wsX00 ++ (vx_atS RX0 55 "java/lang/IllegalStateException" ["java/lang/RuntimeException", "java/lang/Exception"]).filter goodWord)
def wsX0_gate : List Cond := .code yX0_gate cX0_gate 4 (some .int) :: ([.fieldLink RX0 48 "TidegateBourse" "turbines" "I", .fieldLink RX0 16 "TidegateBourse" "gates" "[I", .methodLink RX0 38 yX0_requireIndex, .static yX0_requireIndex, .initialized RX0, .code yX0_requireIndex cX0_requireIndex 3 none, .classLink RX0 139 "java/lang/IndexOutOfBoundsException", .initialized "java/lang/IndexOutOfBoundsException", .methodLink RX0 42 yX0_requireRange, .static yX0_requireRange, .code yX0_requireRange cX0_requireRange 3 none, .classLink RX0 144 "java/lang/IllegalArgumentException", .initialized "java/lang/IllegalArgumentException"] ++ wsX00 ++ (vx_atS RX0 143 "java/lang/IndexOutOfBoundsException" ["java/lang/RuntimeException", "java/lang/Exception"]).filter goodWord ++ (vx_atS RX0 148 "java/lang/IllegalArgumentException" ["java/lang/RuntimeException", "java/lang/Exception"]).filter goodWord)
def wsX0_repair : List Cond := .code yX0_repair cX0_repair 3 (some .int) :: ([.fieldLink RX0 48 "TidegateBourse" "turbines" "I", .fieldLink RX0 19 "TidegateBourse" "wears" "[I", .fieldLink RX0 22 "TidegateBourse" "repairEnds" "[I", .fieldLink RX0 58 "TidegateBourse" "nextHour" "I", .methodLink RX0 38 yX0_requireIndex, .static yX0_requireIndex, .initialized RX0, .code yX0_requireIndex cX0_requireIndex 3 none, .classLink RX0 139 "java/lang/IndexOutOfBoundsException", .initialized "java/lang/IndexOutOfBoundsException"] ++ wsX00 ++ (vx_atS RX0 143 "java/lang/IndexOutOfBoundsException" ["java/lang/RuntimeException", "java/lang/Exception"]).filter goodWord)
def wsX0_run : List Cond := .code yX0_run cX0_run 2 (some .boolean) :: ([.fieldLink RX0 61 "TidegateBourse" "fishTold" "I", .fieldLink RX0 34 "TidegateBourse" "fishLimit" "I", .methodLink RX0 42 yX0_requireRange, .static yX0_requireRange, .initialized RX0, .code yX0_requireRange cX0_requireRange 3 none, .classLink RX0 144 "java/lang/IllegalArgumentException", .initialized "java/lang/IllegalArgumentException"] ++ wsX00 ++ (vx_atS RX0 148 "java/lang/IllegalArgumentException" ["java/lang/RuntimeException", "java/lang/Exception"]).filter goodWord)
def wsX0_limit : List Cond := .code yX0_limit cX0_limit 3 (some .int) :: ([.fieldLink RX0 34 "TidegateBourse" "fishLimit" "I", .methodLink RX0 42 yX0_requireRange, .static yX0_requireRange, .initialized RX0, .code yX0_requireRange cX0_requireRange 3 none, .classLink RX0 144 "java/lang/IllegalArgumentException", .initialized "java/lang/IllegalArgumentException"] ++ wsX00 ++ (vx_atS RX0 148 "java/lang/IllegalArgumentException" ["java/lang/RuntimeException", "java/lang/Exception"]).filter goodWord)
def wsX0_worth : List Cond := .code yX0_worth cX0_worth 2 (some .float) :: ([])
def wsX0_sell : List Cond := .code yX0_sell cX0_sell 4 (some .int) :: ([.classLink RX0 51 "java/lang/IllegalStateException", .initialized "java/lang/IllegalStateException", .fieldLink RX0 58 "TidegateBourse" "nextHour" "I", .fieldLink RX0 31 "TidegateBourse" "soldUnits" "[I", .fieldLink RX0 66 "TidegateBourse" "balance" "F", .methodLink RX0 38 yX0_requireIndex, .static yX0_requireIndex, .initialized RX0, .code yX0_requireIndex cX0_requireIndex 3 none, .classLink RX0 139 "java/lang/IndexOutOfBoundsException", .initialized "java/lang/IndexOutOfBoundsException", .methodLink RX0 42 yX0_requireRange, .static yX0_requireRange, .code yX0_requireRange cX0_requireRange 3 none, .classLink RX0 144 "java/lang/IllegalArgumentException", .initialized "java/lang/IllegalArgumentException", .methodLink RX0 70 yX0_worth, .static yX0_worth, .code yX0_worth cX0_worth 2 (some .float)] ++ wsX00 ++ (vx_atS RX0 55 "java/lang/IllegalStateException" ["java/lang/RuntimeException", "java/lang/Exception"]).filter goodWord ++ (vx_atS RX0 143 "java/lang/IndexOutOfBoundsException" ["java/lang/RuntimeException", "java/lang/Exception"]).filter goodWord ++ (vx_atS RX0 148 "java/lang/IllegalArgumentException" ["java/lang/RuntimeException", "java/lang/Exception"]).filter goodWord)
def wsX0_noteFor : List Cond := .code yX0_noteFor cX0_noteFor 4 (some .int) :: ([.fieldLink RX0 9 "TidegateBourse" "levels" "[I", .fieldLink RX0 45 "TidegateBourse" "windNow" "I", .methodLink RX0 113 Lib.Math.abs.name, .static Lib.Math.abs.name, .initialized "java/lang/Math", .code Lib.Math.abs.name Lib.Math.abs.code 1 (some .int), .fieldLink RX0 48 "TidegateBourse" "turbines" "I", .fieldLink RX0 16 "TidegateBourse" "gates" "[I", .fieldLink RX0 22 "TidegateBourse" "repairEnds" "[I", .fieldLink RX0 61 "TidegateBourse" "fishTold" "I", .fieldLink RX0 34 "TidegateBourse" "fishLimit" "I", .constant RX0 116 (8388608)] ++ wsX00)
def wsX0_notedRun : List Cond := .code yX0_notedRun cX0_notedRun 1 (some .boolean) :: ([])
def wsX0_notedHead : List Cond := .code yX0_notedHead cX0_notedHead 1 (some .int) :: ([])
def wsX0_works : List Cond := .code yX0_works cX0_works 4 (some .boolean) :: ([])
def wsX0_unitsOf : List Cond := .code yX0_unitsOf cX0_unitsOf 3 (some .int) :: ([])
def wsX0_wearAfter : List Cond := .code yX0_wearAfter cX0_wearAfter 4 (some .int) :: ([.methodLink RX0 129 Lib.Math.min.name, .static Lib.Math.min.name, .initialized "java/lang/Math", .code Lib.Math.min.name Lib.Math.min.code 2 (some .int)])
def wsX0_makeUnits : List Cond := .code yX0_makeUnits cX0_makeUnits 7 (some .int) :: ([.fieldLink RX0 48 "TidegateBourse" "turbines" "I", .fieldLink RX0 16 "TidegateBourse" "gates" "[I", .fieldLink RX0 19 "TidegateBourse" "wears" "[I", .fieldLink RX0 22 "TidegateBourse" "repairEnds" "[I", .fieldLink RX0 93 "TidegateBourse" "closedEnd" "I", .methodLink RX0 117 yX0_works, .static yX0_works, .initialized RX0, .code yX0_works cX0_works 4 (some .boolean), .methodLink RX0 121 yX0_unitsOf, .static yX0_unitsOf, .code yX0_unitsOf cX0_unitsOf 3 (some .int), .methodLink RX0 125 yX0_wearAfter, .static yX0_wearAfter, .code yX0_wearAfter cX0_wearAfter 4 (some .int), .methodLink RX0 129 Lib.Math.min.name, .static Lib.Math.min.name, .initialized "java/lang/Math", .code Lib.Math.min.name Lib.Math.min.code 2 (some .int)] ++ wsX00)
def wsX0_settle : List Cond := .code yX0_settle cX0_settle 4 none :: ([.fieldLink RX0 13 "TidegateBourse" "prices" "[I", .fieldLink RX0 28 "TidegateBourse" "madeUnits" "[I", .fieldLink RX0 31 "TidegateBourse" "soldUnits" "[I", .fieldLink RX0 66 "TidegateBourse" "balance" "F", .constantFloat RX0 128 (1056964608), .methodLink RX0 70 yX0_worth, .static yX0_worth, .initialized RX0, .code yX0_worth cX0_worth 2 (some .float)] ++ wsX00)
def wsX0_goBy_r1 : List Cond := [Cond.fieldLink RX0 93 "TidegateBourse" "closedEnd" "I", Cond.fieldLink RX0 25 "TidegateBourse" "notes" "[I", Cond.fieldLink RX0 28 "TidegateBourse" "madeUnits" "[I", Cond.fieldLink RX0 61 "TidegateBourse" "fishTold" "I", Cond.fieldLink RX0 58 "TidegateBourse" "nextHour" "I", Cond.methodLink RX0 100 yX0_noteFor, Cond.instanceMethod yX0_noteFor, Cond.selects RX0 yX0_noteFor yX0_noteFor, Cond.initialized RX0, Cond.code yX0_noteFor cX0_noteFor 4 (some .int), Cond.fieldLink RX0 9 "TidegateBourse" "levels" "[I", Cond.fieldLink RX0 45 "TidegateBourse" "windNow" "I", Cond.methodLink RX0 113 Lib.Math.abs.name, Cond.static Lib.Math.abs.name, Cond.initialized "java/lang/Math", Cond.code Lib.Math.abs.name Lib.Math.abs.code 1 (some .int), Cond.fieldLink RX0 48 "TidegateBourse" "turbines" "I", Cond.fieldLink RX0 16 "TidegateBourse" "gates" "[I", Cond.fieldLink RX0 22 "TidegateBourse" "repairEnds" "[I", Cond.fieldLink RX0 34 "TidegateBourse" "fishLimit" "I", Cond.constant RX0 116 (8388608), Cond.methodLink RX0 103 yX0_notedRun, Cond.static yX0_notedRun, Cond.code yX0_notedRun cX0_notedRun 1 (some .boolean)]
def wsX0_goBy_r2 : List Cond := [Cond.methodLink RX0 89 yX0_notedHead, Cond.static yX0_notedHead, Cond.code yX0_notedHead cX0_notedHead 1 (some .int), Cond.methodLink RX0 107 yX0_makeUnits, Cond.instanceMethod yX0_makeUnits, Cond.selects RX0 yX0_makeUnits yX0_makeUnits, Cond.code yX0_makeUnits cX0_makeUnits 7 (some .int), Cond.fieldLink RX0 19 "TidegateBourse" "wears" "[I", Cond.methodLink RX0 117 yX0_works, Cond.static yX0_works, Cond.code yX0_works cX0_works 4 (some .boolean), Cond.methodLink RX0 121 yX0_unitsOf, Cond.static yX0_unitsOf, Cond.code yX0_unitsOf cX0_unitsOf 3 (some .int), Cond.methodLink RX0 125 yX0_wearAfter, Cond.static yX0_wearAfter, Cond.code yX0_wearAfter cX0_wearAfter 4 (some .int), Cond.methodLink RX0 129 Lib.Math.min.name, Cond.static Lib.Math.min.name, Cond.code Lib.Math.min.name Lib.Math.min.code 2 (some .int), Cond.methodLink RX0 110 yX0_settle, Cond.instanceMethod yX0_settle, Cond.selects RX0 yX0_settle yX0_settle, Cond.code yX0_settle cX0_settle 4 none]
def wsX0_goBy_r3 : List Cond := [Cond.fieldLink RX0 13 "TidegateBourse" "prices" "[I", Cond.fieldLink RX0 31 "TidegateBourse" "soldUnits" "[I", Cond.fieldLink RX0 66 "TidegateBourse" "balance" "F", Cond.constantFloat RX0 128 (1056964608), Cond.methodLink RX0 70 yX0_worth, Cond.static yX0_worth, Cond.code yX0_worth cX0_worth 2 (some .float)]
def wsX0_goBy : List Cond := .code yX0_goBy cX0_goBy 3 none :: ((wsX0_goBy_r1 ++ (wsX0_goBy_r2 ++ wsX0_goBy_r3)) ++ wsX00)
def wsX0_pass_r1 : List Cond := [Cond.classLink RX0 51 "java/lang/IllegalStateException", Cond.initialized "java/lang/IllegalStateException", Cond.fieldLink RX0 58 "TidegateBourse" "nextHour" "I", Cond.methodLink RX0 42 yX0_requireRange, Cond.static yX0_requireRange, Cond.initialized RX0, Cond.code yX0_requireRange cX0_requireRange 3 none, Cond.classLink RX0 144 "java/lang/IllegalArgumentException", Cond.initialized "java/lang/IllegalArgumentException", Cond.methodLink RX0 76 yX0_goBy, Cond.instanceMethod yX0_goBy, Cond.selects RX0 yX0_goBy yX0_goBy, Cond.code yX0_goBy cX0_goBy 3 none, Cond.fieldLink RX0 93 "TidegateBourse" "closedEnd" "I", Cond.fieldLink RX0 25 "TidegateBourse" "notes" "[I", Cond.fieldLink RX0 28 "TidegateBourse" "madeUnits" "[I", Cond.fieldLink RX0 61 "TidegateBourse" "fishTold" "I", Cond.methodLink RX0 100 yX0_noteFor, Cond.instanceMethod yX0_noteFor, Cond.selects RX0 yX0_noteFor yX0_noteFor, Cond.code yX0_noteFor cX0_noteFor 4 (some .int), Cond.fieldLink RX0 9 "TidegateBourse" "levels" "[I", Cond.fieldLink RX0 45 "TidegateBourse" "windNow" "I", Cond.methodLink RX0 113 Lib.Math.abs.name]
def wsX0_pass_r2 : List Cond := [Cond.static Lib.Math.abs.name, Cond.initialized "java/lang/Math", Cond.code Lib.Math.abs.name Lib.Math.abs.code 1 (some .int), Cond.fieldLink RX0 48 "TidegateBourse" "turbines" "I", Cond.fieldLink RX0 16 "TidegateBourse" "gates" "[I", Cond.fieldLink RX0 22 "TidegateBourse" "repairEnds" "[I", Cond.fieldLink RX0 34 "TidegateBourse" "fishLimit" "I", Cond.constant RX0 116 (8388608), Cond.methodLink RX0 103 yX0_notedRun, Cond.static yX0_notedRun, Cond.code yX0_notedRun cX0_notedRun 1 (some .boolean), Cond.methodLink RX0 89 yX0_notedHead, Cond.static yX0_notedHead, Cond.code yX0_notedHead cX0_notedHead 1 (some .int), Cond.methodLink RX0 107 yX0_makeUnits, Cond.instanceMethod yX0_makeUnits, Cond.selects RX0 yX0_makeUnits yX0_makeUnits, Cond.code yX0_makeUnits cX0_makeUnits 7 (some .int), Cond.fieldLink RX0 19 "TidegateBourse" "wears" "[I", Cond.methodLink RX0 117 yX0_works, Cond.static yX0_works, Cond.code yX0_works cX0_works 4 (some .boolean), Cond.methodLink RX0 121 yX0_unitsOf, Cond.static yX0_unitsOf]
def wsX0_pass_r3 : List Cond := [Cond.code yX0_unitsOf cX0_unitsOf 3 (some .int), Cond.methodLink RX0 125 yX0_wearAfter, Cond.static yX0_wearAfter, Cond.code yX0_wearAfter cX0_wearAfter 4 (some .int), Cond.methodLink RX0 129 Lib.Math.min.name, Cond.static Lib.Math.min.name, Cond.code Lib.Math.min.name Lib.Math.min.code 2 (some .int), Cond.methodLink RX0 110 yX0_settle, Cond.instanceMethod yX0_settle, Cond.selects RX0 yX0_settle yX0_settle, Cond.code yX0_settle cX0_settle 4 none, Cond.fieldLink RX0 13 "TidegateBourse" "prices" "[I", Cond.fieldLink RX0 31 "TidegateBourse" "soldUnits" "[I", Cond.fieldLink RX0 66 "TidegateBourse" "balance" "F", Cond.constantFloat RX0 128 (1056964608), Cond.methodLink RX0 70 yX0_worth, Cond.static yX0_worth, Cond.code yX0_worth cX0_worth 2 (some .float)]
def wsX0_pass : List Cond := .code yX0_pass cX0_pass 4 (some .int) :: ((wsX0_pass_r1 ++ (wsX0_pass_r2 ++ wsX0_pass_r3)) ++ wsX00 ++ (vx_atS RX0 55 "java/lang/IllegalStateException" ["java/lang/RuntimeException", "java/lang/Exception"]).filter goodWord ++ (vx_atS RX0 148 "java/lang/IllegalArgumentException" ["java/lang/RuntimeException", "java/lang/Exception"]).filter goodWord)
def wsX0_now : List Cond := .code yX0_now cX0_now 1 (some .int) :: ([.fieldLink RX0 58 "TidegateBourse" "nextHour" "I"] ++ wsX00)
def wsX0_made : List Cond := .code yX0_made cX0_made 2 (some .int) :: ([.fieldLink RX0 58 "TidegateBourse" "nextHour" "I", .fieldLink RX0 28 "TidegateBourse" "madeUnits" "[I", .methodLink RX0 38 yX0_requireIndex, .static yX0_requireIndex, .initialized RX0, .code yX0_requireIndex cX0_requireIndex 3 none, .classLink RX0 139 "java/lang/IndexOutOfBoundsException", .initialized "java/lang/IndexOutOfBoundsException"] ++ wsX00 ++ (vx_atS RX0 143 "java/lang/IndexOutOfBoundsException" ["java/lang/RuntimeException", "java/lang/Exception"]).filter goodWord)
def wsX0_notedRepair : List Cond := .code yX0_notedRepair cX0_notedRepair 2 (some .boolean) :: ([])
def wsX0_notedGate : List Cond := .code yX0_notedGate cX0_notedGate 2 (some .int) :: ([])
def wsX0_unitsFromNotes_r1 : List Cond := [Cond.fieldLink RX0 25 "TidegateBourse" "notes" "[I", Cond.methodLink RX0 132 yX0_notedRepair, Cond.static yX0_notedRepair, Cond.initialized RX0, Cond.code yX0_notedRepair cX0_notedRepair 2 (some .boolean), Cond.methodLink RX0 103 yX0_notedRun, Cond.static yX0_notedRun, Cond.code yX0_notedRun cX0_notedRun 1 (some .boolean), Cond.methodLink RX0 117 yX0_works, Cond.static yX0_works, Cond.code yX0_works cX0_works 4 (some .boolean), Cond.methodLink RX0 89 yX0_notedHead, Cond.static yX0_notedHead, Cond.code yX0_notedHead cX0_notedHead 1 (some .int), Cond.methodLink RX0 136 yX0_notedGate, Cond.static yX0_notedGate, Cond.code yX0_notedGate cX0_notedGate 2 (some .int), Cond.methodLink RX0 121 yX0_unitsOf, Cond.static yX0_unitsOf, Cond.code yX0_unitsOf cX0_unitsOf 3 (some .int), Cond.methodLink RX0 125 yX0_wearAfter, Cond.static yX0_wearAfter, Cond.code yX0_wearAfter cX0_wearAfter 4 (some .int), Cond.methodLink RX0 129 Lib.Math.min.name]
def wsX0_unitsFromNotes_r2 : List Cond := [Cond.static Lib.Math.min.name, Cond.initialized "java/lang/Math", Cond.code Lib.Math.min.name Lib.Math.min.code 2 (some .int)]
def wsX0_unitsFromNotes : List Cond := .code yX0_unitsFromNotes cX0_unitsFromNotes 9 (some .int) :: ((wsX0_unitsFromNotes_r1 ++ wsX0_unitsFromNotes_r2) ++ wsX00)
def wsX0_madeAnew_r1 : List Cond := [Cond.fieldLink RX0 58 "TidegateBourse" "nextHour" "I", Cond.methodLink RX0 38 yX0_requireIndex, Cond.static yX0_requireIndex, Cond.initialized RX0, Cond.code yX0_requireIndex cX0_requireIndex 3 none, Cond.classLink RX0 139 "java/lang/IndexOutOfBoundsException", Cond.initialized "java/lang/IndexOutOfBoundsException", Cond.methodLink RX0 80 yX0_unitsFromNotes, Cond.instanceMethod yX0_unitsFromNotes, Cond.selects RX0 yX0_unitsFromNotes yX0_unitsFromNotes, Cond.code yX0_unitsFromNotes cX0_unitsFromNotes 9 (some .int), Cond.fieldLink RX0 25 "TidegateBourse" "notes" "[I", Cond.methodLink RX0 132 yX0_notedRepair, Cond.static yX0_notedRepair, Cond.code yX0_notedRepair cX0_notedRepair 2 (some .boolean), Cond.methodLink RX0 103 yX0_notedRun, Cond.static yX0_notedRun, Cond.code yX0_notedRun cX0_notedRun 1 (some .boolean), Cond.methodLink RX0 117 yX0_works, Cond.static yX0_works, Cond.code yX0_works cX0_works 4 (some .boolean), Cond.methodLink RX0 89 yX0_notedHead, Cond.static yX0_notedHead, Cond.code yX0_notedHead cX0_notedHead 1 (some .int)]
def wsX0_madeAnew_r2 : List Cond := [Cond.methodLink RX0 136 yX0_notedGate, Cond.static yX0_notedGate, Cond.code yX0_notedGate cX0_notedGate 2 (some .int), Cond.methodLink RX0 121 yX0_unitsOf, Cond.static yX0_unitsOf, Cond.code yX0_unitsOf cX0_unitsOf 3 (some .int), Cond.methodLink RX0 125 yX0_wearAfter, Cond.static yX0_wearAfter, Cond.code yX0_wearAfter cX0_wearAfter 4 (some .int), Cond.methodLink RX0 129 Lib.Math.min.name, Cond.static Lib.Math.min.name, Cond.initialized "java/lang/Math", Cond.code Lib.Math.min.name Lib.Math.min.code 2 (some .int)]
def wsX0_madeAnew : List Cond := .code yX0_madeAnew cX0_madeAnew 4 (some .int) :: ((wsX0_madeAnew_r1 ++ wsX0_madeAnew_r2) ++ wsX00 ++ (vx_atS RX0 143 "java/lang/IndexOutOfBoundsException" ["java/lang/RuntimeException", "java/lang/Exception"]).filter goodWord)
def wsX0_sold : List Cond := .code yX0_sold cX0_sold 2 (some .int) :: ([.fieldLink RX0 58 "TidegateBourse" "nextHour" "I", .fieldLink RX0 31 "TidegateBourse" "soldUnits" "[I", .methodLink RX0 38 yX0_requireIndex, .static yX0_requireIndex, .initialized RX0, .code yX0_requireIndex cX0_requireIndex 3 none, .classLink RX0 139 "java/lang/IndexOutOfBoundsException", .initialized "java/lang/IndexOutOfBoundsException"] ++ wsX00 ++ (vx_atS RX0 143 "java/lang/IndexOutOfBoundsException" ["java/lang/RuntimeException", "java/lang/Exception"]).filter goodWord)
def wsX0_bought : List Cond := .code yX0_bought cX0_bought 2 (some .int) :: ([.fieldLink RX0 58 "TidegateBourse" "nextHour" "I", .fieldLink RX0 31 "TidegateBourse" "soldUnits" "[I", .fieldLink RX0 28 "TidegateBourse" "madeUnits" "[I", .methodLink RX0 84 Lib.Math.max.name, .static Lib.Math.max.name, .initialized "java/lang/Math", .code Lib.Math.max.name Lib.Math.max.code 2 (some .int), .methodLink RX0 38 yX0_requireIndex, .static yX0_requireIndex, .initialized RX0, .code yX0_requireIndex cX0_requireIndex 3 none, .classLink RX0 139 "java/lang/IndexOutOfBoundsException", .initialized "java/lang/IndexOutOfBoundsException"] ++ wsX00 ++ (vx_atS RX0 143 "java/lang/IndexOutOfBoundsException" ["java/lang/RuntimeException", "java/lang/Exception"]).filter goodWord)
def wsX0_head : List Cond := .code yX0_head cX0_head 2 (some .int) :: ([.fieldLink RX0 58 "TidegateBourse" "nextHour" "I", .fieldLink RX0 25 "TidegateBourse" "notes" "[I", .methodLink RX0 38 yX0_requireIndex, .static yX0_requireIndex, .initialized RX0, .code yX0_requireIndex cX0_requireIndex 3 none, .classLink RX0 139 "java/lang/IndexOutOfBoundsException", .initialized "java/lang/IndexOutOfBoundsException", .methodLink RX0 89 yX0_notedHead, .static yX0_notedHead, .code yX0_notedHead cX0_notedHead 1 (some .int)] ++ wsX00 ++ (vx_atS RX0 143 "java/lang/IndexOutOfBoundsException" ["java/lang/RuntimeException", "java/lang/Exception"]).filter goodWord)
def wsX0_about : List Cond := .code yX0_about cX0_about 3 (some .int) :: ([.fieldLink RX0 48 "TidegateBourse" "turbines" "I", .fieldLink RX0 16 "TidegateBourse" "gates" "[I", .fieldLink RX0 19 "TidegateBourse" "wears" "[I", .fieldLink RX0 22 "TidegateBourse" "repairEnds" "[I", .fieldLink RX0 58 "TidegateBourse" "nextHour" "I", .methodLink RX0 84 Lib.Math.max.name, .static Lib.Math.max.name, .initialized "java/lang/Math", .code Lib.Math.max.name Lib.Math.max.code 2 (some .int), .methodLink RX0 38 yX0_requireIndex, .static yX0_requireIndex, .initialized RX0, .code yX0_requireIndex cX0_requireIndex 3 none, .classLink RX0 139 "java/lang/IndexOutOfBoundsException", .initialized "java/lang/IndexOutOfBoundsException", .methodLink RX0 42 yX0_requireRange, .static yX0_requireRange, .code yX0_requireRange cX0_requireRange 3 none, .classLink RX0 144 "java/lang/IllegalArgumentException", .initialized "java/lang/IllegalArgumentException"] ++ wsX00 ++ (vx_atS RX0 143 "java/lang/IndexOutOfBoundsException" ["java/lang/RuntimeException", "java/lang/Exception"]).filter goodWord ++ (vx_atS RX0 148 "java/lang/IllegalArgumentException" ["java/lang/RuntimeException", "java/lang/Exception"]).filter goodWord)
def wsX0_closed : List Cond := .code yX0_closed cX0_closed 1 (some .int) :: ([.fieldLink RX0 93 "TidegateBourse" "closedEnd" "I", .fieldLink RX0 58 "TidegateBourse" "nextHour" "I", .methodLink RX0 84 Lib.Math.max.name, .static Lib.Math.max.name, .initialized "java/lang/Math", .code Lib.Math.max.name Lib.Math.max.code 2 (some .int)] ++ wsX00)
def wsX0_bitsOf : List Cond := .code yX0_bitsOf cX0_bitsOf 5 (some .int) :: ([.constantFloat RX0 128 (1056964608), .constantFloat RX0 149 (1258291200), .constant RX0 150 (-2147483648)])
def wsX0_money : List Cond := .code yX0_money cX0_money 1 (some .int) :: ([.fieldLink RX0 66 "TidegateBourse" "balance" "F", .methodLink RX0 96 yX0_bitsOf, .static yX0_bitsOf, .initialized RX0, .code yX0_bitsOf cX0_bitsOf 5 (some .int), .constantFloat RX0 128 (1056964608), .constantFloat RX0 149 (1258291200), .constant RX0 150 (-2147483648)] ++ wsX00)
def wsX1_init : List Cond := .code yX1_init cX1_init 2 none :: ([.methodLink RX1 1 objectInit, .instanceMethod objectInit, .code objectInit ⟨#[0xb1]⟩ 1 none, .arrayClass .int, .fieldLink RX1 7 "TidegateBourseModel" "levels" "[I", .fieldLink RX1 13 "TidegateBourseModel" "prices" "[I", .fieldLink RX1 16 "TidegateBourseModel" "gates" "[I", .fieldLink RX1 19 "TidegateBourseModel" "wears" "[I", .fieldLink RX1 22 "TidegateBourseModel" "repairs" "[I", .fieldLink RX1 25 "TidegateBourseModel" "limit" "I", .fieldLink RX1 29 "TidegateBourseModel" "sold" "[I", .fieldLink RX1 32 "TidegateBourseModel" "made" "[I", .fieldLink RX1 35 "TidegateBourseModel" "bought" "[I", .fieldLink RX1 38 "TidegateBourseModel" "heads" "[I"] ++ wsX10)
def wsX1_thrown : List Cond := .code yX1_thrown cX1_thrown 1 (some .int) :: ([.fieldLink RX1 41 "TidegateBourseModel" "thrown" "I"] ++ wsX10)
def wsX1_isIn : List Cond := .code yX1_isIn cX1_isIn 3 (some .boolean) :: ([])
def wsX1_isTurbine : List Cond := .code yX1_isTurbine cX1_isTurbine 2 (some .boolean) :: ([.fieldLink RX1 44 "TidegateBourseModel" "turbines" "I", .methodLink RX1 47 yX1_isIn, .static yX1_isIn, .initialized RX1, .code yX1_isIn cX1_isIn 3 (some .boolean)] ++ wsX10)
def wsX1_tide : List Cond := .code yX1_tide cX1_tide 4 (some .int) :: ([.fieldLink RX1 41 "TidegateBourseModel" "thrown" "I", .fieldLink RX1 7 "TidegateBourseModel" "levels" "[I", .methodLink RX1 47 yX1_isIn, .static yX1_isIn, .initialized RX1, .code yX1_isIn cX1_isIn 3 (some .boolean)] ++ wsX10)
def wsX1_price : List Cond := .code yX1_price cX1_price 4 (some .int) :: ([.fieldLink RX1 41 "TidegateBourseModel" "thrown" "I", .fieldLink RX1 13 "TidegateBourseModel" "prices" "[I", .methodLink RX1 47 yX1_isIn, .static yX1_isIn, .initialized RX1, .code yX1_isIn cX1_isIn 3 (some .boolean)] ++ wsX10)
def wsX1_wind : List Cond := .code yX1_wind cX1_wind 3 (some .int) :: ([.fieldLink RX1 41 "TidegateBourseModel" "thrown" "I", .fieldLink RX1 51 "TidegateBourseModel" "wind" "I", .methodLink RX1 47 yX1_isIn, .static yX1_isIn, .initialized RX1, .code yX1_isIn cX1_isIn 3 (some .boolean)] ++ wsX10)
def wsX1_turbine : List Cond := .code yX1_turbine cX1_turbine 1 (some .int) :: ([.fieldLink RX1 44 "TidegateBourseModel" "turbines" "I", .fieldLink RX1 41 "TidegateBourseModel" "thrown" "I"] ++ wsX10)
def wsX1_gate : List Cond := .code yX1_gate cX1_gate 4 (some .int) :: ([.fieldLink RX1 41 "TidegateBourseModel" "thrown" "I", .fieldLink RX1 16 "TidegateBourseModel" "gates" "[I", .methodLink RX1 54 yX1_isTurbine, .instanceMethod yX1_isTurbine, .selects RX1 yX1_isTurbine yX1_isTurbine, .initialized RX1, .code yX1_isTurbine cX1_isTurbine 2 (some .boolean), .fieldLink RX1 44 "TidegateBourseModel" "turbines" "I", .methodLink RX1 47 yX1_isIn, .static yX1_isIn, .code yX1_isIn cX1_isIn 3 (some .boolean)] ++ wsX10)
def wsX1_repair : List Cond := .code yX1_repair cX1_repair 3 (some .int) :: ([.fieldLink RX1 41 "TidegateBourseModel" "thrown" "I", .fieldLink RX1 19 "TidegateBourseModel" "wears" "[I", .fieldLink RX1 22 "TidegateBourseModel" "repairs" "[I", .methodLink RX1 54 yX1_isTurbine, .instanceMethod yX1_isTurbine, .selects RX1 yX1_isTurbine yX1_isTurbine, .initialized RX1, .code yX1_isTurbine cX1_isTurbine 2 (some .boolean), .fieldLink RX1 44 "TidegateBourseModel" "turbines" "I", .methodLink RX1 47 yX1_isIn, .static yX1_isIn, .code yX1_isIn cX1_isIn 3 (some .boolean)] ++ wsX10)
def wsX1_run : List Cond := .code yX1_run cX1_run 2 (some .boolean) :: ([.fieldLink RX1 41 "TidegateBourseModel" "thrown" "I", .fieldLink RX1 58 "TidegateBourseModel" "fish" "I", .fieldLink RX1 25 "TidegateBourseModel" "limit" "I", .methodLink RX1 47 yX1_isIn, .static yX1_isIn, .initialized RX1, .code yX1_isIn cX1_isIn 3 (some .boolean)] ++ wsX10)
def wsX1_limit : List Cond := .code yX1_limit cX1_limit 3 (some .int) :: ([.fieldLink RX1 41 "TidegateBourseModel" "thrown" "I", .fieldLink RX1 25 "TidegateBourseModel" "limit" "I", .methodLink RX1 47 yX1_isIn, .static yX1_isIn, .initialized RX1, .code yX1_isIn cX1_isIn 3 (some .boolean)] ++ wsX10)
def wsX1_sell : List Cond := .code yX1_sell cX1_sell 6 (some .int) :: ([.fieldLink RX1 61 "TidegateBourseModel" "now" "I", .fieldLink RX1 29 "TidegateBourseModel" "sold" "[I", .fieldLink RX1 41 "TidegateBourseModel" "thrown" "I", .fieldLink RX1 64 "TidegateBourseModel" "money" "F", .methodLink RX1 47 yX1_isIn, .static yX1_isIn, .initialized RX1, .code yX1_isIn cX1_isIn 3 (some .boolean)] ++ wsX10)
def wsX1_makes : List Cond := .code yX1_makes cX1_makes 5 (some .int) :: ([.fieldLink RX1 19 "TidegateBourseModel" "wears" "[I", .fieldLink RX1 22 "TidegateBourseModel" "repairs" "[I", .fieldLink RX1 68 "TidegateBourseModel" "closed" "I", .fieldLink RX1 16 "TidegateBourseModel" "gates" "[I"] ++ wsX10)
def wsX1_goes : List Cond := .code yX1_goes cX1_goes 5 none :: ([.fieldLink RX1 7 "TidegateBourseModel" "levels" "[I", .fieldLink RX1 61 "TidegateBourseModel" "now" "I", .fieldLink RX1 51 "TidegateBourseModel" "wind" "I", .fieldLink RX1 58 "TidegateBourseModel" "fish" "I", .fieldLink RX1 25 "TidegateBourseModel" "limit" "I", .fieldLink RX1 68 "TidegateBourseModel" "closed" "I", .fieldLink RX1 44 "TidegateBourseModel" "turbines" "I", .fieldLink RX1 22 "TidegateBourseModel" "repairs" "[I", .fieldLink RX1 38 "TidegateBourseModel" "heads" "[I", .fieldLink RX1 32 "TidegateBourseModel" "made" "[I", .fieldLink RX1 13 "TidegateBourseModel" "prices" "[I", .fieldLink RX1 29 "TidegateBourseModel" "sold" "[I", .fieldLink RX1 35 "TidegateBourseModel" "bought" "[I", .fieldLink RX1 64 "TidegateBourseModel" "money" "F", .constantFloat RX1 75 (1056964608), .methodLink RX1 71 yX1_makes, .instanceMethod yX1_makes, .selects RX1 yX1_makes yX1_makes, .initialized RX1, .code yX1_makes cX1_makes 5 (some .int), .fieldLink RX1 19 "TidegateBourseModel" "wears" "[I", .fieldLink RX1 16 "TidegateBourseModel" "gates" "[I"] ++ wsX10)
def wsX1_pass_r1 : List Cond := [Cond.fieldLink RX1 61 "TidegateBourseModel" "now" "I", Cond.fieldLink RX1 41 "TidegateBourseModel" "thrown" "I", Cond.methodLink RX1 47 yX1_isIn, Cond.static yX1_isIn, Cond.initialized RX1, Cond.code yX1_isIn cX1_isIn 3 (some .boolean), Cond.methodLink RX1 76 yX1_goes, Cond.instanceMethod yX1_goes, Cond.selects RX1 yX1_goes yX1_goes, Cond.code yX1_goes cX1_goes 5 none, Cond.fieldLink RX1 7 "TidegateBourseModel" "levels" "[I", Cond.fieldLink RX1 51 "TidegateBourseModel" "wind" "I", Cond.fieldLink RX1 58 "TidegateBourseModel" "fish" "I", Cond.fieldLink RX1 25 "TidegateBourseModel" "limit" "I", Cond.fieldLink RX1 68 "TidegateBourseModel" "closed" "I", Cond.fieldLink RX1 44 "TidegateBourseModel" "turbines" "I", Cond.fieldLink RX1 22 "TidegateBourseModel" "repairs" "[I", Cond.fieldLink RX1 38 "TidegateBourseModel" "heads" "[I", Cond.fieldLink RX1 32 "TidegateBourseModel" "made" "[I", Cond.fieldLink RX1 13 "TidegateBourseModel" "prices" "[I", Cond.fieldLink RX1 29 "TidegateBourseModel" "sold" "[I", Cond.fieldLink RX1 35 "TidegateBourseModel" "bought" "[I", Cond.fieldLink RX1 64 "TidegateBourseModel" "money" "F", Cond.constantFloat RX1 75 (1056964608)]
def wsX1_pass_r2 : List Cond := [Cond.methodLink RX1 71 yX1_makes, Cond.instanceMethod yX1_makes, Cond.selects RX1 yX1_makes yX1_makes, Cond.code yX1_makes cX1_makes 5 (some .int), Cond.fieldLink RX1 19 "TidegateBourseModel" "wears" "[I", Cond.fieldLink RX1 16 "TidegateBourseModel" "gates" "[I"]
def wsX1_pass : List Cond := .code yX1_pass cX1_pass 3 (some .int) :: ((wsX1_pass_r1 ++ wsX1_pass_r2) ++ wsX10)
def wsX1_now : List Cond := .code yX1_now cX1_now 1 (some .int) :: ([.fieldLink RX1 41 "TidegateBourseModel" "thrown" "I", .fieldLink RX1 61 "TidegateBourseModel" "now" "I"] ++ wsX10)
def wsX1_isGone : List Cond := .code yX1_isGone cX1_isGone 2 (some .boolean) :: ([.fieldLink RX1 61 "TidegateBourseModel" "now" "I", .methodLink RX1 47 yX1_isIn, .static yX1_isIn, .initialized RX1, .code yX1_isIn cX1_isIn 3 (some .boolean)] ++ wsX10)
def wsX1_made : List Cond := .code yX1_made cX1_made 2 (some .int) :: ([.fieldLink RX1 41 "TidegateBourseModel" "thrown" "I", .fieldLink RX1 32 "TidegateBourseModel" "made" "[I", .methodLink RX1 79 yX1_isGone, .instanceMethod yX1_isGone, .selects RX1 yX1_isGone yX1_isGone, .initialized RX1, .code yX1_isGone cX1_isGone 2 (some .boolean), .fieldLink RX1 61 "TidegateBourseModel" "now" "I", .methodLink RX1 47 yX1_isIn, .static yX1_isIn, .code yX1_isIn cX1_isIn 3 (some .boolean)] ++ wsX10)
def wsX1_madeAnew : List Cond := .code yX1_madeAnew cX1_madeAnew 2 (some .int) :: ([.fieldLink RX1 41 "TidegateBourseModel" "thrown" "I", .fieldLink RX1 32 "TidegateBourseModel" "made" "[I", .methodLink RX1 79 yX1_isGone, .instanceMethod yX1_isGone, .selects RX1 yX1_isGone yX1_isGone, .initialized RX1, .code yX1_isGone cX1_isGone 2 (some .boolean), .fieldLink RX1 61 "TidegateBourseModel" "now" "I", .methodLink RX1 47 yX1_isIn, .static yX1_isIn, .code yX1_isIn cX1_isIn 3 (some .boolean)] ++ wsX10)
def wsX1_sold : List Cond := .code yX1_sold cX1_sold 2 (some .int) :: ([.fieldLink RX1 61 "TidegateBourseModel" "now" "I", .fieldLink RX1 41 "TidegateBourseModel" "thrown" "I", .fieldLink RX1 29 "TidegateBourseModel" "sold" "[I", .methodLink RX1 47 yX1_isIn, .static yX1_isIn, .initialized RX1, .code yX1_isIn cX1_isIn 3 (some .boolean)] ++ wsX10)
def wsX1_bought : List Cond := .code yX1_bought cX1_bought 2 (some .int) :: ([.fieldLink RX1 41 "TidegateBourseModel" "thrown" "I", .fieldLink RX1 35 "TidegateBourseModel" "bought" "[I", .methodLink RX1 79 yX1_isGone, .instanceMethod yX1_isGone, .selects RX1 yX1_isGone yX1_isGone, .initialized RX1, .code yX1_isGone cX1_isGone 2 (some .boolean), .fieldLink RX1 61 "TidegateBourseModel" "now" "I", .methodLink RX1 47 yX1_isIn, .static yX1_isIn, .code yX1_isIn cX1_isIn 3 (some .boolean)] ++ wsX10)
def wsX1_head : List Cond := .code yX1_head cX1_head 2 (some .int) :: ([.fieldLink RX1 41 "TidegateBourseModel" "thrown" "I", .fieldLink RX1 38 "TidegateBourseModel" "heads" "[I", .methodLink RX1 79 yX1_isGone, .instanceMethod yX1_isGone, .selects RX1 yX1_isGone yX1_isGone, .initialized RX1, .code yX1_isGone cX1_isGone 2 (some .boolean), .fieldLink RX1 61 "TidegateBourseModel" "now" "I", .methodLink RX1 47 yX1_isIn, .static yX1_isIn, .code yX1_isIn cX1_isIn 3 (some .boolean)] ++ wsX10)
def wsX1_about : List Cond := .code yX1_about cX1_about 3 (some .int) :: ([.fieldLink RX1 41 "TidegateBourseModel" "thrown" "I", .fieldLink RX1 16 "TidegateBourseModel" "gates" "[I", .fieldLink RX1 19 "TidegateBourseModel" "wears" "[I", .fieldLink RX1 22 "TidegateBourseModel" "repairs" "[I", .methodLink RX1 54 yX1_isTurbine, .instanceMethod yX1_isTurbine, .selects RX1 yX1_isTurbine yX1_isTurbine, .initialized RX1, .code yX1_isTurbine cX1_isTurbine 2 (some .boolean), .fieldLink RX1 44 "TidegateBourseModel" "turbines" "I", .methodLink RX1 47 yX1_isIn, .static yX1_isIn, .code yX1_isIn cX1_isIn 3 (some .boolean)] ++ wsX10)
def wsX1_closed : List Cond := .code yX1_closed cX1_closed 1 (some .int) :: ([.fieldLink RX1 41 "TidegateBourseModel" "thrown" "I", .fieldLink RX1 68 "TidegateBourseModel" "closed" "I"] ++ wsX10)
def wsJxf58ca_isNaN_12338 : List Cond := .code yJxf58ca_isNaN_12338 cJxf58ca_isNaN_12338 1 (some .boolean) :: ([])
def wsJxf58ca_floatToIntBits_5c35a : List Cond := .code yJxf58ca_floatToIntBits_5c35a cJxf58ca_floatToIntBits_5c35a 1 (some .int) :: ([.methodLink RJxf58ca 74 ⟨"java/lang/Float", "floatToRawIntBits", "(F)I"⟩, .native ⟨"java/lang/Float", "floatToRawIntBits", "(F)I"⟩, .static ⟨"java/lang/Float", "floatToRawIntBits", "(F)I"⟩, .initialized "java/lang/Float", .constant RJxf58ca 77 (2143289344), .methodLink RJxf58ca 59 yJxf58ca_isNaN_12338, .static yJxf58ca_isNaN_12338, .initialized RJxf58ca, .code yJxf58ca_isNaN_12338 cJxf58ca_isNaN_12338 1 (some .boolean)])
def wsX1_money : List Cond := .code yX1_money cX1_money 1 (some .int) :: ([.fieldLink RX1 41 "TidegateBourseModel" "thrown" "I", .fieldLink RX1 64 "TidegateBourseModel" "money" "F", .methodLink RX1 82 yJxf58ca_floatToIntBits_5c35a, .static yJxf58ca_floatToIntBits_5c35a, .initialized RJxf58ca, .code yJxf58ca_floatToIntBits_5c35a cJxf58ca_floatToIntBits_5c35a 1 (some .int), .methodLink RJxf58ca 74 ⟨"java/lang/Float", "floatToRawIntBits", "(F)I"⟩, .native ⟨"java/lang/Float", "floatToRawIntBits", "(F)I"⟩, .static ⟨"java/lang/Float", "floatToRawIntBits", "(F)I"⟩, .initialized "java/lang/Float", .constant RJxf58ca 77 (2143289344), .methodLink RJxf58ca 59 yJxf58ca_isNaN_12338, .static yJxf58ca_isNaN_12338, .code yJxf58ca_isNaN_12338 cJxf58ca_isNaN_12338 1 (some .boolean)] ++ wsX10)
def wsJ9_abs_0f7a4 : List Cond := .code yJ9_abs_0f7a4 cJ9_abs_0f7a4 1 (some .int) :: ([])
def wsJ9_max_7cf53 : List Cond := .code yJ9_max_7cf53 cJ9_max_7cf53 2 (some .int) :: ([])
def wsJ9_min_7cf53 : List Cond := .code yJ9_min_7cf53 cJ9_min_7cf53 2 (some .int) :: ([])
def wsL_tide : List Cond := .codeWith yL_tide cL_tide 5 (some .int) [(0, 10, 13, 13), (0, 10, 17, 15)] :: ([.classLink RL 13 "java/lang/IndexOutOfBoundsException", .classLink RL 15 "java/lang/IllegalArgumentException", .methodLink RL 7 yX0_tide, .instanceMethod yX0_tide, .selects RX0 yX0_tide yX0_tide, .initialized RX0, .code yX0_tide cX0_tide 4 (some .int), .fieldLink RX0 9 "TidegateBourse" "levels" "[I", .methodLink RX0 38 yX0_requireIndex, .static yX0_requireIndex, .code yX0_requireIndex cX0_requireIndex 3 none, .classLink RX0 139 "java/lang/IndexOutOfBoundsException", .initialized "java/lang/IndexOutOfBoundsException", .methodLink RX0 42 yX0_requireRange, .static yX0_requireRange, .code yX0_requireRange cX0_requireRange 3 none, .classLink RX0 144 "java/lang/IllegalArgumentException", .initialized "java/lang/IllegalArgumentException"] ++ wsX00 ++ (vx_atS RX0 143 "java/lang/IndexOutOfBoundsException" ["java/lang/RuntimeException", "java/lang/Exception"]).filter goodWord ++ (vx_atS RX0 148 "java/lang/IllegalArgumentException" ["java/lang/RuntimeException", "java/lang/Exception"]).filter goodWord)
def wsL_price : List Cond := .codeWith yL_price cL_price 5 (some .int) [(0, 10, 13, 13), (0, 10, 17, 15)] :: ([.classLink RL 13 "java/lang/IndexOutOfBoundsException", .classLink RL 15 "java/lang/IllegalArgumentException", .methodLink RL 17 yX0_price, .instanceMethod yX0_price, .selects RX0 yX0_price yX0_price, .initialized RX0, .code yX0_price cX0_price 4 (some .int), .fieldLink RX0 13 "TidegateBourse" "prices" "[I", .methodLink RX0 38 yX0_requireIndex, .static yX0_requireIndex, .code yX0_requireIndex cX0_requireIndex 3 none, .classLink RX0 139 "java/lang/IndexOutOfBoundsException", .initialized "java/lang/IndexOutOfBoundsException", .methodLink RX0 42 yX0_requireRange, .static yX0_requireRange, .code yX0_requireRange cX0_requireRange 3 none, .classLink RX0 144 "java/lang/IllegalArgumentException", .initialized "java/lang/IllegalArgumentException"] ++ wsX00 ++ (vx_atS RX0 143 "java/lang/IndexOutOfBoundsException" ["java/lang/RuntimeException", "java/lang/Exception"]).filter goodWord ++ (vx_atS RX0 148 "java/lang/IllegalArgumentException" ["java/lang/RuntimeException", "java/lang/Exception"]).filter goodWord)
def wsL_wind : List Cond := .codeWith yL_wind cL_wind 4 (some .int) [(0, 9, 12, 15)] :: ([.classLink RL 15 "java/lang/IllegalArgumentException", .methodLink RL 20 yX0_wind, .instanceMethod yX0_wind, .selects RX0 yX0_wind yX0_wind, .initialized RX0, .code yX0_wind cX0_wind 3 (some .int), .fieldLink RX0 45 "TidegateBourse" "windNow" "I", .methodLink RX0 42 yX0_requireRange, .static yX0_requireRange, .code yX0_requireRange cX0_requireRange 3 none, .classLink RX0 144 "java/lang/IllegalArgumentException", .initialized "java/lang/IllegalArgumentException"] ++ wsX00 ++ (vx_atS RX0 148 "java/lang/IllegalArgumentException" ["java/lang/RuntimeException", "java/lang/Exception"]).filter goodWord)
def wsL_turbine : List Cond := .codeWith yL_turbine cL_turbine 3 (some .int) [(0, 8, 11, 28)] :: ([.classLink RL 28 "java/lang/IllegalStateException", .methodLink RL 24 yX0_turbine, .instanceMethod yX0_turbine, .selects RX0 yX0_turbine yX0_turbine, .initialized RX0, .code yX0_turbine cX0_turbine 1 (some .int), .classLink RX0 51 "java/lang/IllegalStateException", .initialized "java/lang/IllegalStateException", .fieldLink RX0 48 "TidegateBourse" "turbines" "I"] ++ wsX00 ++ (vx_atS RX0 55 "java/lang/IllegalStateException" ["java/lang/RuntimeException", "java/lang/Exception"]).filter goodWord)
def wsL_gate : List Cond := .codeWith yL_gate cL_gate 5 (some .int) [(0, 10, 13, 13), (0, 10, 17, 15)] :: ([.classLink RL 13 "java/lang/IndexOutOfBoundsException", .classLink RL 15 "java/lang/IllegalArgumentException", .methodLink RL 30 yX0_gate, .instanceMethod yX0_gate, .selects RX0 yX0_gate yX0_gate, .initialized RX0, .code yX0_gate cX0_gate 4 (some .int), .fieldLink RX0 48 "TidegateBourse" "turbines" "I", .fieldLink RX0 16 "TidegateBourse" "gates" "[I", .methodLink RX0 38 yX0_requireIndex, .static yX0_requireIndex, .code yX0_requireIndex cX0_requireIndex 3 none, .classLink RX0 139 "java/lang/IndexOutOfBoundsException", .initialized "java/lang/IndexOutOfBoundsException", .methodLink RX0 42 yX0_requireRange, .static yX0_requireRange, .code yX0_requireRange cX0_requireRange 3 none, .classLink RX0 144 "java/lang/IllegalArgumentException", .initialized "java/lang/IllegalArgumentException"] ++ wsX00 ++ (vx_atS RX0 143 "java/lang/IndexOutOfBoundsException" ["java/lang/RuntimeException", "java/lang/Exception"]).filter goodWord ++ (vx_atS RX0 148 "java/lang/IllegalArgumentException" ["java/lang/RuntimeException", "java/lang/Exception"]).filter goodWord)
def wsL_repair : List Cond := .codeWith yL_repair cL_repair 4 (some .int) [(0, 9, 12, 13)] :: ([.classLink RL 13 "java/lang/IndexOutOfBoundsException", .methodLink RL 33 yX0_repair, .instanceMethod yX0_repair, .selects RX0 yX0_repair yX0_repair, .initialized RX0, .code yX0_repair cX0_repair 3 (some .int), .fieldLink RX0 48 "TidegateBourse" "turbines" "I", .fieldLink RX0 19 "TidegateBourse" "wears" "[I", .fieldLink RX0 22 "TidegateBourse" "repairEnds" "[I", .fieldLink RX0 58 "TidegateBourse" "nextHour" "I", .methodLink RX0 38 yX0_requireIndex, .static yX0_requireIndex, .code yX0_requireIndex cX0_requireIndex 3 none, .classLink RX0 139 "java/lang/IndexOutOfBoundsException", .initialized "java/lang/IndexOutOfBoundsException"] ++ wsX00 ++ (vx_atS RX0 143 "java/lang/IndexOutOfBoundsException" ["java/lang/RuntimeException", "java/lang/Exception"]).filter goodWord)
def wsL_run : List Cond := .codeWith yL_run cL_run 4 (some .int) [(0, 16, 19, 15)] :: ([.classLink RL 15 "java/lang/IllegalArgumentException", .methodLink RL 36 yX0_run, .instanceMethod yX0_run, .selects RX0 yX0_run yX0_run, .initialized RX0, .code yX0_run cX0_run 2 (some .boolean), .fieldLink RX0 61 "TidegateBourse" "fishTold" "I", .fieldLink RX0 34 "TidegateBourse" "fishLimit" "I", .methodLink RX0 42 yX0_requireRange, .static yX0_requireRange, .code yX0_requireRange cX0_requireRange 3 none, .classLink RX0 144 "java/lang/IllegalArgumentException", .initialized "java/lang/IllegalArgumentException"] ++ wsX00 ++ (vx_atS RX0 148 "java/lang/IllegalArgumentException" ["java/lang/RuntimeException", "java/lang/Exception"]).filter goodWord)
def wsL_limit : List Cond := .codeWith yL_limit cL_limit 4 (some .int) [(0, 9, 12, 15)] :: ([.classLink RL 15 "java/lang/IllegalArgumentException", .methodLink RL 40 yX0_limit, .instanceMethod yX0_limit, .selects RX0 yX0_limit yX0_limit, .initialized RX0, .code yX0_limit cX0_limit 3 (some .int), .fieldLink RX0 34 "TidegateBourse" "fishLimit" "I", .methodLink RX0 42 yX0_requireRange, .static yX0_requireRange, .code yX0_requireRange cX0_requireRange 3 none, .classLink RX0 144 "java/lang/IllegalArgumentException", .initialized "java/lang/IllegalArgumentException"] ++ wsX00 ++ (vx_atS RX0 148 "java/lang/IllegalArgumentException" ["java/lang/RuntimeException", "java/lang/Exception"]).filter goodWord)
def wsL_sell_r1 : List Cond := [Cond.classLink RL 13 "java/lang/IndexOutOfBoundsException", Cond.classLink RL 15 "java/lang/IllegalArgumentException", Cond.classLink RL 28 "java/lang/IllegalStateException", Cond.methodLink RL 43 yX0_sell, Cond.instanceMethod yX0_sell, Cond.selects RX0 yX0_sell yX0_sell, Cond.initialized RX0, Cond.code yX0_sell cX0_sell 4 (some .int), Cond.classLink RX0 51 "java/lang/IllegalStateException", Cond.initialized "java/lang/IllegalStateException", Cond.fieldLink RX0 58 "TidegateBourse" "nextHour" "I", Cond.fieldLink RX0 31 "TidegateBourse" "soldUnits" "[I", Cond.fieldLink RX0 66 "TidegateBourse" "balance" "F", Cond.methodLink RX0 38 yX0_requireIndex, Cond.static yX0_requireIndex, Cond.code yX0_requireIndex cX0_requireIndex 3 none, Cond.classLink RX0 139 "java/lang/IndexOutOfBoundsException", Cond.initialized "java/lang/IndexOutOfBoundsException", Cond.methodLink RX0 42 yX0_requireRange, Cond.static yX0_requireRange, Cond.code yX0_requireRange cX0_requireRange 3 none, Cond.classLink RX0 144 "java/lang/IllegalArgumentException", Cond.initialized "java/lang/IllegalArgumentException", Cond.methodLink RX0 70 yX0_worth]
def wsL_sell_r2 : List Cond := [Cond.static yX0_worth, Cond.code yX0_worth cX0_worth 2 (some .float)]
def wsL_sell : List Cond := .codeWith yL_sell cL_sell 6 (some .int) [(0, 12, 15, 13), (0, 12, 19, 15), (0, 12, 23, 28)] :: ((wsL_sell_r1 ++ wsL_sell_r2) ++ wsX00 ++ (vx_atS RX0 55 "java/lang/IllegalStateException" ["java/lang/RuntimeException", "java/lang/Exception"]).filter goodWord ++ (vx_atS RX0 143 "java/lang/IndexOutOfBoundsException" ["java/lang/RuntimeException", "java/lang/Exception"]).filter goodWord ++ (vx_atS RX0 148 "java/lang/IllegalArgumentException" ["java/lang/RuntimeException", "java/lang/Exception"]).filter goodWord)
def wsL_pass_r1 : List Cond := [Cond.classLink RL 15 "java/lang/IllegalArgumentException", Cond.classLink RL 28 "java/lang/IllegalStateException", Cond.methodLink RL 47 yX0_pass, Cond.instanceMethod yX0_pass, Cond.selects RX0 yX0_pass yX0_pass, Cond.initialized RX0, Cond.code yX0_pass cX0_pass 4 (some .int), Cond.classLink RX0 51 "java/lang/IllegalStateException", Cond.initialized "java/lang/IllegalStateException", Cond.fieldLink RX0 58 "TidegateBourse" "nextHour" "I", Cond.methodLink RX0 42 yX0_requireRange, Cond.static yX0_requireRange, Cond.code yX0_requireRange cX0_requireRange 3 none, Cond.classLink RX0 144 "java/lang/IllegalArgumentException", Cond.initialized "java/lang/IllegalArgumentException", Cond.methodLink RX0 76 yX0_goBy, Cond.instanceMethod yX0_goBy, Cond.selects RX0 yX0_goBy yX0_goBy, Cond.code yX0_goBy cX0_goBy 3 none, Cond.fieldLink RX0 93 "TidegateBourse" "closedEnd" "I", Cond.fieldLink RX0 25 "TidegateBourse" "notes" "[I", Cond.fieldLink RX0 28 "TidegateBourse" "madeUnits" "[I", Cond.fieldLink RX0 61 "TidegateBourse" "fishTold" "I", Cond.methodLink RX0 100 yX0_noteFor]
def wsL_pass_r2 : List Cond := [Cond.instanceMethod yX0_noteFor, Cond.selects RX0 yX0_noteFor yX0_noteFor, Cond.code yX0_noteFor cX0_noteFor 4 (some .int), Cond.fieldLink RX0 9 "TidegateBourse" "levels" "[I", Cond.fieldLink RX0 45 "TidegateBourse" "windNow" "I", Cond.methodLink RX0 113 Lib.Math.abs.name, Cond.static Lib.Math.abs.name, Cond.initialized "java/lang/Math", Cond.code Lib.Math.abs.name Lib.Math.abs.code 1 (some .int), Cond.fieldLink RX0 48 "TidegateBourse" "turbines" "I", Cond.fieldLink RX0 16 "TidegateBourse" "gates" "[I", Cond.fieldLink RX0 22 "TidegateBourse" "repairEnds" "[I", Cond.fieldLink RX0 34 "TidegateBourse" "fishLimit" "I", Cond.constant RX0 116 (8388608), Cond.methodLink RX0 103 yX0_notedRun, Cond.static yX0_notedRun, Cond.code yX0_notedRun cX0_notedRun 1 (some .boolean), Cond.methodLink RX0 89 yX0_notedHead, Cond.static yX0_notedHead, Cond.code yX0_notedHead cX0_notedHead 1 (some .int), Cond.methodLink RX0 107 yX0_makeUnits, Cond.instanceMethod yX0_makeUnits, Cond.selects RX0 yX0_makeUnits yX0_makeUnits, Cond.code yX0_makeUnits cX0_makeUnits 7 (some .int)]
def wsL_pass_r3 : List Cond := [Cond.fieldLink RX0 19 "TidegateBourse" "wears" "[I", Cond.methodLink RX0 117 yX0_works, Cond.static yX0_works, Cond.code yX0_works cX0_works 4 (some .boolean), Cond.methodLink RX0 121 yX0_unitsOf, Cond.static yX0_unitsOf, Cond.code yX0_unitsOf cX0_unitsOf 3 (some .int), Cond.methodLink RX0 125 yX0_wearAfter, Cond.static yX0_wearAfter, Cond.code yX0_wearAfter cX0_wearAfter 4 (some .int), Cond.methodLink RX0 129 Lib.Math.min.name, Cond.static Lib.Math.min.name, Cond.code Lib.Math.min.name Lib.Math.min.code 2 (some .int), Cond.methodLink RX0 110 yX0_settle, Cond.instanceMethod yX0_settle, Cond.selects RX0 yX0_settle yX0_settle, Cond.code yX0_settle cX0_settle 4 none, Cond.fieldLink RX0 13 "TidegateBourse" "prices" "[I", Cond.fieldLink RX0 31 "TidegateBourse" "soldUnits" "[I", Cond.fieldLink RX0 66 "TidegateBourse" "balance" "F", Cond.constantFloat RX0 128 (1056964608), Cond.methodLink RX0 70 yX0_worth, Cond.static yX0_worth, Cond.code yX0_worth cX0_worth 2 (some .float)]
def wsL_pass : List Cond := .codeWith yL_pass cL_pass 4 (some .int) [(0, 9, 12, 15), (0, 9, 15, 28)] :: ((wsL_pass_r1 ++ (wsL_pass_r2 ++ wsL_pass_r3)) ++ wsX00 ++ (vx_atS RX0 55 "java/lang/IllegalStateException" ["java/lang/RuntimeException", "java/lang/Exception"]).filter goodWord ++ (vx_atS RX0 148 "java/lang/IllegalArgumentException" ["java/lang/RuntimeException", "java/lang/Exception"]).filter goodWord)
def wsL_made : List Cond := .codeWith yL_made cL_made 4 (some .int) [(0, 9, 12, 13)] :: ([.classLink RL 13 "java/lang/IndexOutOfBoundsException", .methodLink RL 50 yX0_made, .instanceMethod yX0_made, .selects RX0 yX0_made yX0_made, .initialized RX0, .code yX0_made cX0_made 2 (some .int), .fieldLink RX0 58 "TidegateBourse" "nextHour" "I", .fieldLink RX0 28 "TidegateBourse" "madeUnits" "[I", .methodLink RX0 38 yX0_requireIndex, .static yX0_requireIndex, .code yX0_requireIndex cX0_requireIndex 3 none, .classLink RX0 139 "java/lang/IndexOutOfBoundsException", .initialized "java/lang/IndexOutOfBoundsException"] ++ wsX00 ++ (vx_atS RX0 143 "java/lang/IndexOutOfBoundsException" ["java/lang/RuntimeException", "java/lang/Exception"]).filter goodWord)
def wsL_madeAnew_r1 : List Cond := [Cond.classLink RL 13 "java/lang/IndexOutOfBoundsException", Cond.methodLink RL 53 yX0_madeAnew, Cond.instanceMethod yX0_madeAnew, Cond.selects RX0 yX0_madeAnew yX0_madeAnew, Cond.initialized RX0, Cond.code yX0_madeAnew cX0_madeAnew 4 (some .int), Cond.fieldLink RX0 58 "TidegateBourse" "nextHour" "I", Cond.methodLink RX0 38 yX0_requireIndex, Cond.static yX0_requireIndex, Cond.code yX0_requireIndex cX0_requireIndex 3 none, Cond.classLink RX0 139 "java/lang/IndexOutOfBoundsException", Cond.initialized "java/lang/IndexOutOfBoundsException", Cond.methodLink RX0 80 yX0_unitsFromNotes, Cond.instanceMethod yX0_unitsFromNotes, Cond.selects RX0 yX0_unitsFromNotes yX0_unitsFromNotes, Cond.code yX0_unitsFromNotes cX0_unitsFromNotes 9 (some .int), Cond.fieldLink RX0 25 "TidegateBourse" "notes" "[I", Cond.methodLink RX0 132 yX0_notedRepair, Cond.static yX0_notedRepair, Cond.code yX0_notedRepair cX0_notedRepair 2 (some .boolean), Cond.methodLink RX0 103 yX0_notedRun, Cond.static yX0_notedRun, Cond.code yX0_notedRun cX0_notedRun 1 (some .boolean), Cond.methodLink RX0 117 yX0_works]
def wsL_madeAnew_r2 : List Cond := [Cond.static yX0_works, Cond.code yX0_works cX0_works 4 (some .boolean), Cond.methodLink RX0 89 yX0_notedHead, Cond.static yX0_notedHead, Cond.code yX0_notedHead cX0_notedHead 1 (some .int), Cond.methodLink RX0 136 yX0_notedGate, Cond.static yX0_notedGate, Cond.code yX0_notedGate cX0_notedGate 2 (some .int), Cond.methodLink RX0 121 yX0_unitsOf, Cond.static yX0_unitsOf, Cond.code yX0_unitsOf cX0_unitsOf 3 (some .int), Cond.methodLink RX0 125 yX0_wearAfter, Cond.static yX0_wearAfter, Cond.code yX0_wearAfter cX0_wearAfter 4 (some .int), Cond.methodLink RX0 129 Lib.Math.min.name, Cond.static Lib.Math.min.name, Cond.initialized "java/lang/Math", Cond.code Lib.Math.min.name Lib.Math.min.code 2 (some .int)]
def wsL_madeAnew : List Cond := .codeWith yL_madeAnew cL_madeAnew 4 (some .int) [(0, 9, 12, 13)] :: ((wsL_madeAnew_r1 ++ wsL_madeAnew_r2) ++ wsX00 ++ (vx_atS RX0 143 "java/lang/IndexOutOfBoundsException" ["java/lang/RuntimeException", "java/lang/Exception"]).filter goodWord)
def wsL_sold : List Cond := .codeWith yL_sold cL_sold 4 (some .int) [(0, 9, 12, 13)] :: ([.classLink RL 13 "java/lang/IndexOutOfBoundsException", .methodLink RL 56 yX0_sold, .instanceMethod yX0_sold, .selects RX0 yX0_sold yX0_sold, .initialized RX0, .code yX0_sold cX0_sold 2 (some .int), .fieldLink RX0 58 "TidegateBourse" "nextHour" "I", .fieldLink RX0 31 "TidegateBourse" "soldUnits" "[I", .methodLink RX0 38 yX0_requireIndex, .static yX0_requireIndex, .code yX0_requireIndex cX0_requireIndex 3 none, .classLink RX0 139 "java/lang/IndexOutOfBoundsException", .initialized "java/lang/IndexOutOfBoundsException"] ++ wsX00 ++ (vx_atS RX0 143 "java/lang/IndexOutOfBoundsException" ["java/lang/RuntimeException", "java/lang/Exception"]).filter goodWord)
def wsL_bought : List Cond := .codeWith yL_bought cL_bought 4 (some .int) [(0, 9, 12, 13)] :: ([.classLink RL 13 "java/lang/IndexOutOfBoundsException", .methodLink RL 59 yX0_bought, .instanceMethod yX0_bought, .selects RX0 yX0_bought yX0_bought, .initialized RX0, .code yX0_bought cX0_bought 2 (some .int), .fieldLink RX0 58 "TidegateBourse" "nextHour" "I", .fieldLink RX0 31 "TidegateBourse" "soldUnits" "[I", .fieldLink RX0 28 "TidegateBourse" "madeUnits" "[I", .methodLink RX0 84 Lib.Math.max.name, .static Lib.Math.max.name, .initialized "java/lang/Math", .code Lib.Math.max.name Lib.Math.max.code 2 (some .int), .methodLink RX0 38 yX0_requireIndex, .static yX0_requireIndex, .code yX0_requireIndex cX0_requireIndex 3 none, .classLink RX0 139 "java/lang/IndexOutOfBoundsException", .initialized "java/lang/IndexOutOfBoundsException"] ++ wsX00 ++ (vx_atS RX0 143 "java/lang/IndexOutOfBoundsException" ["java/lang/RuntimeException", "java/lang/Exception"]).filter goodWord)
def wsL_head : List Cond := .codeWith yL_head cL_head 4 (some .int) [(0, 9, 12, 13)] :: ([.classLink RL 13 "java/lang/IndexOutOfBoundsException", .methodLink RL 62 yX0_head, .instanceMethod yX0_head, .selects RX0 yX0_head yX0_head, .initialized RX0, .code yX0_head cX0_head 2 (some .int), .fieldLink RX0 58 "TidegateBourse" "nextHour" "I", .fieldLink RX0 25 "TidegateBourse" "notes" "[I", .methodLink RX0 38 yX0_requireIndex, .static yX0_requireIndex, .code yX0_requireIndex cX0_requireIndex 3 none, .classLink RX0 139 "java/lang/IndexOutOfBoundsException", .initialized "java/lang/IndexOutOfBoundsException", .methodLink RX0 89 yX0_notedHead, .static yX0_notedHead, .code yX0_notedHead cX0_notedHead 1 (some .int)] ++ wsX00 ++ (vx_atS RX0 143 "java/lang/IndexOutOfBoundsException" ["java/lang/RuntimeException", "java/lang/Exception"]).filter goodWord)
def wsL_about_r1 : List Cond := [Cond.classLink RL 13 "java/lang/IndexOutOfBoundsException", Cond.classLink RL 15 "java/lang/IllegalArgumentException", Cond.methodLink RL 65 yX0_about, Cond.instanceMethod yX0_about, Cond.selects RX0 yX0_about yX0_about, Cond.initialized RX0, Cond.code yX0_about cX0_about 3 (some .int), Cond.fieldLink RX0 48 "TidegateBourse" "turbines" "I", Cond.fieldLink RX0 16 "TidegateBourse" "gates" "[I", Cond.fieldLink RX0 19 "TidegateBourse" "wears" "[I", Cond.fieldLink RX0 22 "TidegateBourse" "repairEnds" "[I", Cond.fieldLink RX0 58 "TidegateBourse" "nextHour" "I", Cond.methodLink RX0 84 Lib.Math.max.name, Cond.static Lib.Math.max.name, Cond.initialized "java/lang/Math", Cond.code Lib.Math.max.name Lib.Math.max.code 2 (some .int), Cond.methodLink RX0 38 yX0_requireIndex, Cond.static yX0_requireIndex, Cond.code yX0_requireIndex cX0_requireIndex 3 none, Cond.classLink RX0 139 "java/lang/IndexOutOfBoundsException", Cond.initialized "java/lang/IndexOutOfBoundsException", Cond.methodLink RX0 42 yX0_requireRange, Cond.static yX0_requireRange, Cond.code yX0_requireRange cX0_requireRange 3 none]
def wsL_about_r2 : List Cond := [Cond.classLink RX0 144 "java/lang/IllegalArgumentException", Cond.initialized "java/lang/IllegalArgumentException"]
def wsL_about : List Cond := .codeWith yL_about cL_about 5 (some .int) [(0, 10, 13, 13), (0, 10, 17, 15)] :: ((wsL_about_r1 ++ wsL_about_r2) ++ wsX00 ++ (vx_atS RX0 143 "java/lang/IndexOutOfBoundsException" ["java/lang/RuntimeException", "java/lang/Exception"]).filter goodWord ++ (vx_atS RX0 148 "java/lang/IllegalArgumentException" ["java/lang/RuntimeException", "java/lang/Exception"]).filter goodWord)
def wsL_law0_r1 : List Cond := [Cond.classLink RL 8 RX0, Cond.instantiable RX0 15, Cond.initialized RX0, Cond.classLink RL 69 RX1, Cond.instantiable RX1 17, Cond.initialized RX1, Cond.arrayClass .long, Cond.methodLink RL 68 yX0_init, Cond.instanceMethod yX0_init, Cond.code yX0_init cX0_init 2 none, Cond.methodLink RX0 3 objectInit, Cond.instanceMethod objectInit, Cond.code objectInit ⟨#[0xb1]⟩ 1 none, Cond.arrayClass .int, Cond.fieldLink RX0 9 "TidegateBourse" "levels" "[I", Cond.fieldLink RX0 13 "TidegateBourse" "prices" "[I", Cond.fieldLink RX0 16 "TidegateBourse" "gates" "[I", Cond.fieldLink RX0 19 "TidegateBourse" "wears" "[I", Cond.fieldLink RX0 22 "TidegateBourse" "repairEnds" "[I", Cond.fieldLink RX0 25 "TidegateBourse" "notes" "[I", Cond.fieldLink RX0 28 "TidegateBourse" "madeUnits" "[I", Cond.fieldLink RX0 31 "TidegateBourse" "soldUnits" "[I", Cond.fieldLink RX0 34 "TidegateBourse" "fishLimit" "I", Cond.methodLink RL 71 yX1_init]
def wsL_law0_r2 : List Cond := [Cond.instanceMethod yX1_init, Cond.code yX1_init cX1_init 2 none, Cond.methodLink RX1 1 objectInit, Cond.fieldLink RX1 7 "TidegateBourseModel" "levels" "[I", Cond.fieldLink RX1 13 "TidegateBourseModel" "prices" "[I", Cond.fieldLink RX1 16 "TidegateBourseModel" "gates" "[I", Cond.fieldLink RX1 19 "TidegateBourseModel" "wears" "[I", Cond.fieldLink RX1 22 "TidegateBourseModel" "repairs" "[I", Cond.fieldLink RX1 25 "TidegateBourseModel" "limit" "I", Cond.fieldLink RX1 29 "TidegateBourseModel" "sold" "[I", Cond.fieldLink RX1 32 "TidegateBourseModel" "made" "[I", Cond.fieldLink RX1 35 "TidegateBourseModel" "bought" "[I", Cond.fieldLink RX1 38 "TidegateBourseModel" "heads" "[I", Cond.methodLink RL 72 yL_tide, Cond.static yL_tide, Cond.initialized RL, Cond.codeWith yL_tide cL_tide 5 (some .int) [(0, 10, 13, 13), (0, 10, 17, 15)], Cond.classLink RL 13 "java/lang/IndexOutOfBoundsException", Cond.classLink RL 15 "java/lang/IllegalArgumentException", Cond.methodLink RL 7 yX0_tide, Cond.instanceMethod yX0_tide, Cond.selects RX0 yX0_tide yX0_tide, Cond.code yX0_tide cX0_tide 4 (some .int), Cond.methodLink RX0 38 yX0_requireIndex]
def wsL_law0_r3 : List Cond := [Cond.static yX0_requireIndex, Cond.code yX0_requireIndex cX0_requireIndex 3 none, Cond.classLink RX0 139 "java/lang/IndexOutOfBoundsException", Cond.initialized "java/lang/IndexOutOfBoundsException", Cond.methodLink RX0 42 yX0_requireRange, Cond.static yX0_requireRange, Cond.code yX0_requireRange cX0_requireRange 3 none, Cond.classLink RX0 144 "java/lang/IllegalArgumentException", Cond.initialized "java/lang/IllegalArgumentException", Cond.methodLink RL 77 yX1_tide, Cond.instanceMethod yX1_tide, Cond.selects RX1 yX1_tide yX1_tide, Cond.code yX1_tide cX1_tide 4 (some .int), Cond.fieldLink RX1 41 "TidegateBourseModel" "thrown" "I", Cond.methodLink RX1 47 yX1_isIn, Cond.static yX1_isIn, Cond.code yX1_isIn cX1_isIn 3 (some .boolean), Cond.methodLink RL 78 yX1_thrown, Cond.instanceMethod yX1_thrown, Cond.selects RX1 yX1_thrown yX1_thrown, Cond.code yX1_thrown cX1_thrown 1 (some .int), Cond.methodLink RL 81 yL_price, Cond.static yL_price, Cond.codeWith yL_price cL_price 5 (some .int) [(0, 10, 13, 13), (0, 10, 17, 15)]]
def wsL_law0_r4 : List Cond := [Cond.methodLink RL 17 yX0_price, Cond.instanceMethod yX0_price, Cond.selects RX0 yX0_price yX0_price, Cond.code yX0_price cX0_price 4 (some .int), Cond.methodLink RL 83 yX1_price, Cond.instanceMethod yX1_price, Cond.selects RX1 yX1_price yX1_price, Cond.code yX1_price cX1_price 4 (some .int), Cond.methodLink RL 84 yL_wind, Cond.static yL_wind, Cond.codeWith yL_wind cL_wind 4 (some .int) [(0, 9, 12, 15)], Cond.methodLink RL 20 yX0_wind, Cond.instanceMethod yX0_wind, Cond.selects RX0 yX0_wind yX0_wind, Cond.code yX0_wind cX0_wind 3 (some .int), Cond.fieldLink RX0 45 "TidegateBourse" "windNow" "I", Cond.methodLink RL 87 yX1_wind, Cond.instanceMethod yX1_wind, Cond.selects RX1 yX1_wind yX1_wind, Cond.code yX1_wind cX1_wind 3 (some .int), Cond.fieldLink RX1 51 "TidegateBourseModel" "wind" "I", Cond.methodLink RL 88 yL_turbine, Cond.static yL_turbine, Cond.codeWith yL_turbine cL_turbine 3 (some .int) [(0, 8, 11, 28)]]
def wsL_law0_r5 : List Cond := [Cond.classLink RL 28 "java/lang/IllegalStateException", Cond.methodLink RL 24 yX0_turbine, Cond.instanceMethod yX0_turbine, Cond.selects RX0 yX0_turbine yX0_turbine, Cond.code yX0_turbine cX0_turbine 1 (some .int), Cond.classLink RX0 51 "java/lang/IllegalStateException", Cond.initialized "java/lang/IllegalStateException", Cond.fieldLink RX0 48 "TidegateBourse" "turbines" "I", Cond.methodLink RL 91 yX1_turbine, Cond.instanceMethod yX1_turbine, Cond.selects RX1 yX1_turbine yX1_turbine, Cond.code yX1_turbine cX1_turbine 1 (some .int), Cond.fieldLink RX1 44 "TidegateBourseModel" "turbines" "I", Cond.methodLink RL 92 yL_gate, Cond.static yL_gate, Cond.codeWith yL_gate cL_gate 5 (some .int) [(0, 10, 13, 13), (0, 10, 17, 15)], Cond.methodLink RL 30 yX0_gate, Cond.instanceMethod yX0_gate, Cond.selects RX0 yX0_gate yX0_gate, Cond.code yX0_gate cX0_gate 4 (some .int), Cond.methodLink RL 94 yX1_gate, Cond.instanceMethod yX1_gate, Cond.selects RX1 yX1_gate yX1_gate, Cond.code yX1_gate cX1_gate 4 (some .int)]
def wsL_law0_r6 : List Cond := [Cond.methodLink RX1 54 yX1_isTurbine, Cond.instanceMethod yX1_isTurbine, Cond.selects RX1 yX1_isTurbine yX1_isTurbine, Cond.code yX1_isTurbine cX1_isTurbine 2 (some .boolean), Cond.methodLink RL 95 yL_repair, Cond.static yL_repair, Cond.codeWith yL_repair cL_repair 4 (some .int) [(0, 9, 12, 13)], Cond.methodLink RL 33 yX0_repair, Cond.instanceMethod yX0_repair, Cond.selects RX0 yX0_repair yX0_repair, Cond.code yX0_repair cX0_repair 3 (some .int), Cond.fieldLink RX0 58 "TidegateBourse" "nextHour" "I", Cond.methodLink RL 97 yX1_repair, Cond.instanceMethod yX1_repair, Cond.selects RX1 yX1_repair yX1_repair, Cond.code yX1_repair cX1_repair 3 (some .int), Cond.methodLink RL 98 yL_run, Cond.static yL_run, Cond.codeWith yL_run cL_run 4 (some .int) [(0, 16, 19, 15)], Cond.methodLink RL 36 yX0_run, Cond.instanceMethod yX0_run, Cond.selects RX0 yX0_run yX0_run, Cond.code yX0_run cX0_run 2 (some .boolean), Cond.fieldLink RX0 61 "TidegateBourse" "fishTold" "I"]
def wsL_law0_r7 : List Cond := [Cond.methodLink RL 100 yX1_run, Cond.instanceMethod yX1_run, Cond.selects RX1 yX1_run yX1_run, Cond.code yX1_run cX1_run 2 (some .boolean), Cond.fieldLink RX1 58 "TidegateBourseModel" "fish" "I", Cond.methodLink RL 101 yL_limit, Cond.static yL_limit, Cond.codeWith yL_limit cL_limit 4 (some .int) [(0, 9, 12, 15)], Cond.methodLink RL 40 yX0_limit, Cond.instanceMethod yX0_limit, Cond.selects RX0 yX0_limit yX0_limit, Cond.code yX0_limit cX0_limit 3 (some .int), Cond.methodLink RL 103 yX1_limit, Cond.instanceMethod yX1_limit, Cond.selects RX1 yX1_limit yX1_limit, Cond.code yX1_limit cX1_limit 3 (some .int), Cond.methodLink RL 104 yL_sell, Cond.static yL_sell, Cond.codeWith yL_sell cL_sell 6 (some .int) [(0, 12, 15, 13), (0, 12, 19, 15), (0, 12, 23, 28)], Cond.methodLink RL 43 yX0_sell, Cond.instanceMethod yX0_sell, Cond.selects RX0 yX0_sell yX0_sell, Cond.code yX0_sell cX0_sell 4 (some .int), Cond.fieldLink RX0 66 "TidegateBourse" "balance" "F"]
def wsL_law0_r8 : List Cond := [Cond.methodLink RX0 70 yX0_worth, Cond.static yX0_worth, Cond.code yX0_worth cX0_worth 2 (some .float), Cond.methodLink RL 107 yX1_sell, Cond.instanceMethod yX1_sell, Cond.selects RX1 yX1_sell yX1_sell, Cond.code yX1_sell cX1_sell 6 (some .int), Cond.fieldLink RX1 61 "TidegateBourseModel" "now" "I", Cond.fieldLink RX1 64 "TidegateBourseModel" "money" "F", Cond.methodLink RL 108 yL_pass, Cond.static yL_pass, Cond.codeWith yL_pass cL_pass 4 (some .int) [(0, 9, 12, 15), (0, 9, 15, 28)], Cond.methodLink RL 47 yX0_pass, Cond.instanceMethod yX0_pass, Cond.selects RX0 yX0_pass yX0_pass, Cond.code yX0_pass cX0_pass 4 (some .int), Cond.methodLink RX0 76 yX0_goBy, Cond.instanceMethod yX0_goBy, Cond.selects RX0 yX0_goBy yX0_goBy, Cond.code yX0_goBy cX0_goBy 3 none, Cond.fieldLink RX0 93 "TidegateBourse" "closedEnd" "I", Cond.methodLink RX0 100 yX0_noteFor, Cond.instanceMethod yX0_noteFor, Cond.selects RX0 yX0_noteFor yX0_noteFor]
def wsL_law0_r9 : List Cond := [Cond.code yX0_noteFor cX0_noteFor 4 (some .int), Cond.methodLink RX0 113 Lib.Math.abs.name, Cond.static Lib.Math.abs.name, Cond.initialized "java/lang/Math", Cond.code Lib.Math.abs.name Lib.Math.abs.code 1 (some .int), Cond.constant RX0 116 (8388608), Cond.methodLink RX0 103 yX0_notedRun, Cond.static yX0_notedRun, Cond.code yX0_notedRun cX0_notedRun 1 (some .boolean), Cond.methodLink RX0 89 yX0_notedHead, Cond.static yX0_notedHead, Cond.code yX0_notedHead cX0_notedHead 1 (some .int), Cond.methodLink RX0 107 yX0_makeUnits, Cond.instanceMethod yX0_makeUnits, Cond.selects RX0 yX0_makeUnits yX0_makeUnits, Cond.code yX0_makeUnits cX0_makeUnits 7 (some .int), Cond.methodLink RX0 117 yX0_works, Cond.static yX0_works, Cond.code yX0_works cX0_works 4 (some .boolean), Cond.methodLink RX0 121 yX0_unitsOf, Cond.static yX0_unitsOf, Cond.code yX0_unitsOf cX0_unitsOf 3 (some .int), Cond.methodLink RX0 125 yX0_wearAfter, Cond.static yX0_wearAfter]
def wsL_law0_r10 : List Cond := [Cond.code yX0_wearAfter cX0_wearAfter 4 (some .int), Cond.methodLink RX0 129 Lib.Math.min.name, Cond.static Lib.Math.min.name, Cond.code Lib.Math.min.name Lib.Math.min.code 2 (some .int), Cond.methodLink RX0 110 yX0_settle, Cond.instanceMethod yX0_settle, Cond.selects RX0 yX0_settle yX0_settle, Cond.code yX0_settle cX0_settle 4 none, Cond.constantFloat RX0 128 (1056964608), Cond.methodLink RL 110 yX1_pass, Cond.instanceMethod yX1_pass, Cond.selects RX1 yX1_pass yX1_pass, Cond.code yX1_pass cX1_pass 3 (some .int), Cond.methodLink RX1 76 yX1_goes, Cond.instanceMethod yX1_goes, Cond.selects RX1 yX1_goes yX1_goes, Cond.code yX1_goes cX1_goes 5 none, Cond.fieldLink RX1 68 "TidegateBourseModel" "closed" "I", Cond.constantFloat RX1 75 (1056964608), Cond.methodLink RX1 71 yX1_makes, Cond.instanceMethod yX1_makes, Cond.selects RX1 yX1_makes yX1_makes, Cond.code yX1_makes cX1_makes 5 (some .int), Cond.methodLink RL 111 yX0_now]
def wsL_law0_r11 : List Cond := [Cond.instanceMethod yX0_now, Cond.selects RX0 yX0_now yX0_now, Cond.code yX0_now cX0_now 1 (some .int), Cond.methodLink RL 114 yX1_now, Cond.instanceMethod yX1_now, Cond.selects RX1 yX1_now yX1_now, Cond.code yX1_now cX1_now 1 (some .int), Cond.methodLink RL 115 yL_made, Cond.static yL_made, Cond.codeWith yL_made cL_made 4 (some .int) [(0, 9, 12, 13)], Cond.methodLink RL 50 yX0_made, Cond.instanceMethod yX0_made, Cond.selects RX0 yX0_made yX0_made, Cond.code yX0_made cX0_made 2 (some .int), Cond.methodLink RL 117 yX1_made, Cond.instanceMethod yX1_made, Cond.selects RX1 yX1_made yX1_made, Cond.code yX1_made cX1_made 2 (some .int), Cond.methodLink RX1 79 yX1_isGone, Cond.instanceMethod yX1_isGone, Cond.selects RX1 yX1_isGone yX1_isGone, Cond.code yX1_isGone cX1_isGone 2 (some .boolean), Cond.methodLink RL 118 yL_madeAnew, Cond.static yL_madeAnew]
def wsL_law0_r12 : List Cond := [Cond.codeWith yL_madeAnew cL_madeAnew 4 (some .int) [(0, 9, 12, 13)], Cond.methodLink RL 53 yX0_madeAnew, Cond.instanceMethod yX0_madeAnew, Cond.selects RX0 yX0_madeAnew yX0_madeAnew, Cond.code yX0_madeAnew cX0_madeAnew 4 (some .int), Cond.methodLink RX0 80 yX0_unitsFromNotes, Cond.instanceMethod yX0_unitsFromNotes, Cond.selects RX0 yX0_unitsFromNotes yX0_unitsFromNotes, Cond.code yX0_unitsFromNotes cX0_unitsFromNotes 9 (some .int), Cond.methodLink RX0 132 yX0_notedRepair, Cond.static yX0_notedRepair, Cond.code yX0_notedRepair cX0_notedRepair 2 (some .boolean), Cond.methodLink RX0 136 yX0_notedGate, Cond.static yX0_notedGate, Cond.code yX0_notedGate cX0_notedGate 2 (some .int), Cond.methodLink RL 120 yX1_madeAnew, Cond.instanceMethod yX1_madeAnew, Cond.selects RX1 yX1_madeAnew yX1_madeAnew, Cond.code yX1_madeAnew cX1_madeAnew 2 (some .int), Cond.methodLink RL 121 yL_sold, Cond.static yL_sold, Cond.codeWith yL_sold cL_sold 4 (some .int) [(0, 9, 12, 13)], Cond.methodLink RL 56 yX0_sold, Cond.instanceMethod yX0_sold]
def wsL_law0_r13 : List Cond := [Cond.selects RX0 yX0_sold yX0_sold, Cond.code yX0_sold cX0_sold 2 (some .int), Cond.methodLink RL 123 yX1_sold, Cond.instanceMethod yX1_sold, Cond.selects RX1 yX1_sold yX1_sold, Cond.code yX1_sold cX1_sold 2 (some .int), Cond.methodLink RL 124 yL_bought, Cond.static yL_bought, Cond.codeWith yL_bought cL_bought 4 (some .int) [(0, 9, 12, 13)], Cond.methodLink RL 59 yX0_bought, Cond.instanceMethod yX0_bought, Cond.selects RX0 yX0_bought yX0_bought, Cond.code yX0_bought cX0_bought 2 (some .int), Cond.methodLink RX0 84 Lib.Math.max.name, Cond.static Lib.Math.max.name, Cond.code Lib.Math.max.name Lib.Math.max.code 2 (some .int), Cond.methodLink RL 126 yX1_bought, Cond.instanceMethod yX1_bought, Cond.selects RX1 yX1_bought yX1_bought, Cond.code yX1_bought cX1_bought 2 (some .int), Cond.methodLink RL 127 yL_head, Cond.static yL_head, Cond.codeWith yL_head cL_head 4 (some .int) [(0, 9, 12, 13)], Cond.methodLink RL 62 yX0_head]
def wsL_law0_r14 : List Cond := [Cond.instanceMethod yX0_head, Cond.selects RX0 yX0_head yX0_head, Cond.code yX0_head cX0_head 2 (some .int), Cond.methodLink RL 129 yX1_head, Cond.instanceMethod yX1_head, Cond.selects RX1 yX1_head yX1_head, Cond.code yX1_head cX1_head 2 (some .int), Cond.methodLink RL 130 yL_about, Cond.static yL_about, Cond.codeWith yL_about cL_about 5 (some .int) [(0, 10, 13, 13), (0, 10, 17, 15)], Cond.methodLink RL 65 yX0_about, Cond.instanceMethod yX0_about, Cond.selects RX0 yX0_about yX0_about, Cond.code yX0_about cX0_about 3 (some .int), Cond.methodLink RL 132 yX1_about, Cond.instanceMethod yX1_about, Cond.selects RX1 yX1_about yX1_about, Cond.code yX1_about cX1_about 3 (some .int), Cond.methodLink RL 133 yX0_closed, Cond.instanceMethod yX0_closed, Cond.selects RX0 yX0_closed yX0_closed, Cond.code yX0_closed cX0_closed 1 (some .int), Cond.methodLink RL 136 yX1_closed, Cond.instanceMethod yX1_closed]
def wsL_law0_r15 : List Cond := [Cond.selects RX1 yX1_closed yX1_closed, Cond.code yX1_closed cX1_closed 1 (some .int), Cond.methodLink RL 137 yX0_money, Cond.instanceMethod yX0_money, Cond.selects RX0 yX0_money yX0_money, Cond.code yX0_money cX0_money 1 (some .int), Cond.methodLink RX0 96 yX0_bitsOf, Cond.static yX0_bitsOf, Cond.code yX0_bitsOf cX0_bitsOf 5 (some .int), Cond.constantFloat RX0 149 (1258291200), Cond.constant RX0 150 (-2147483648), Cond.methodLink RL 140 yX1_money, Cond.instanceMethod yX1_money, Cond.selects RX1 yX1_money yX1_money, Cond.code yX1_money cX1_money 1 (some .int), Cond.methodLink RX1 82 yJxf58ca_floatToIntBits_5c35a, Cond.static yJxf58ca_floatToIntBits_5c35a, Cond.initialized RJxf58ca, Cond.code yJxf58ca_floatToIntBits_5c35a cJxf58ca_floatToIntBits_5c35a 1 (some .int), Cond.methodLink RJxf58ca 74 ⟨"java/lang/Float", "floatToRawIntBits", "(F)I"⟩, Cond.native ⟨"java/lang/Float", "floatToRawIntBits", "(F)I"⟩, Cond.static ⟨"java/lang/Float", "floatToRawIntBits", "(F)I"⟩, Cond.initialized "java/lang/Float", Cond.constant RJxf58ca 77 (2143289344)]
def wsL_law0_r16 : List Cond := [Cond.methodLink RJxf58ca 59 yJxf58ca_isNaN_12338, Cond.static yJxf58ca_isNaN_12338, Cond.code yJxf58ca_isNaN_12338 cJxf58ca_isNaN_12338 1 (some .boolean)]
def wsL_law0 : List Cond := (wsL_law0_r1 ++ (wsL_law0_r2 ++ (wsL_law0_r3 ++ (wsL_law0_r4 ++ (wsL_law0_r5 ++ (wsL_law0_r6 ++ (wsL_law0_r7 ++ (wsL_law0_r8 ++ (wsL_law0_r9 ++ (wsL_law0_r10 ++ (wsL_law0_r11 ++ (wsL_law0_r12 ++ (wsL_law0_r13 ++ (wsL_law0_r14 ++ (wsL_law0_r15 ++ wsL_law0_r16))))))))))))))) ++ wsX00 ++ wsX10 ++ ([] : List Cond)
def wsL_law : List Cond := wsL_law0 ++ (vx_atS RX0 143 "java/lang/IndexOutOfBoundsException" ["java/lang/RuntimeException", "java/lang/Exception"]).filter goodWord ++ (vx_atS RX0 148 "java/lang/IllegalArgumentException" ["java/lang/RuntimeException", "java/lang/Exception"]).filter goodWord ++ (vx_atS RX0 55 "java/lang/IllegalStateException" ["java/lang/RuntimeException", "java/lang/Exception"]).filter goodWord
set_option maxRecDepth 20000 in
theorem wsL_law_in0 : ∀ w ∈ wsL_law0, w ∈ lw_tbl := fun w h => (goodIn_p wsL_law0 [25, 28, 375, 105, 108, 179, 436, 439, 432, 202, 443, 209, 447, 217, 451, 240, 455, 459, 247, 463, 254, 467, 261, 471, 268, 272, 475, 279, 284, 288, 291, 295, 298, 302, 305, 308, 311, 314, 318, 479, 483, 487, 79, 492, 325, 496, 500, 332, 336, 339, 342, 504, 349, 508, 356, 86, 512, 363, 516, 370, 520, 83, 524, 90, 93, 528, 531, 534] (by decide +kernel) (by decide +kernel) w h).1
theorem wsL_law_x0 : ∀ w ∈ (vx_atS RX0 143 "java/lang/IndexOutOfBoundsException" ["java/lang/RuntimeException", "java/lang/Exception"]).filter goodWord, w ∈ lw_tbl := by decide +kernel
theorem wsL_law_x1 : ∀ w ∈ (vx_atS RX0 148 "java/lang/IllegalArgumentException" ["java/lang/RuntimeException", "java/lang/Exception"]).filter goodWord, w ∈ lw_tbl := by decide +kernel
theorem wsL_law_x2 : ∀ w ∈ (vx_atS RX0 55 "java/lang/IllegalStateException" ["java/lang/RuntimeException", "java/lang/Exception"]).filter goodWord, w ∈ lw_tbl := by decide +kernel
theorem wsL_law_in : ∀ w ∈ wsL_law, w ∈ lw_tbl := fun w h => (List.mem_append.mp h).elim (fun h => (List.mem_append.mp h).elim (fun h => (List.mem_append.mp h).elim (fun h => wsL_law_in0 w h) (fun h => wsL_law_x0 w h)) (fun h => wsL_law_x1 w h)) (fun h => wsL_law_x2 w h)
theorem inlX0 : ∀ w ∈ wsX00, w ∈ wsL_law := fun _ h => List.mem_append_left _ (List.mem_append_left _ (List.mem_append_left _ (List.mem_append_left _ (List.mem_append_left _ (List.mem_append_right _ h)))))
theorem inX0 : ∀ w ∈ wsX00, w ∈ lw_tbl := fun w h => wsL_law_in w (inlX0 w h)
theorem inlX1 : ∀ w ∈ wsX10, w ∈ wsL_law := fun _ h => List.mem_append_left _ (List.mem_append_left _ (List.mem_append_left _ (List.mem_append_left _ (List.mem_append_right _ h))))
theorem inX1 : ∀ w ∈ wsX10, w ∈ lw_tbl := fun w h => wsL_law_in w (inlX1 w h)
theorem inJxf58ca : ∀ w ∈ wsJxf58ca0, w ∈ lw_tbl := by decide +kernel
theorem inJ9 : ∀ w ∈ wsJ90, w ∈ lw_tbl := by decide +kernel
theorem inJ0 : ∀ w ∈ wsJ00, w ∈ lw_tbl := by decide +kernel
theorem dX0_init_0 : decode cX0_init 0 = .ok (.aload_n 0, 1) := by decide +kernel
theorem dX0_init_1 : decode cX0_init 1 = .ok (.invokespecial 3, 3) := by decide +kernel
theorem dX0_init_4 : decode cX0_init 4 = .ok (.aload_n 0, 1) := by decide +kernel
theorem dX0_init_5 : decode cX0_init 5 = .ok (.bipush 24, 2) := by decide +kernel
theorem dX0_init_7 : decode cX0_init 7 = .ok (.newarray .int, 2) := by decide +kernel
theorem dX0_init_9 : decode cX0_init 9 = .ok (.putfield 9, 3) := by decide +kernel
theorem dX0_init_12 : decode cX0_init 12 = .ok (.aload_n 0, 1) := by decide +kernel
theorem dX0_init_13 : decode cX0_init 13 = .ok (.bipush 24, 2) := by decide +kernel
theorem dX0_init_15 : decode cX0_init 15 = .ok (.newarray .int, 2) := by decide +kernel
theorem dX0_init_17 : decode cX0_init 17 = .ok (.putfield 13, 3) := by decide +kernel
theorem dX0_init_20 : decode cX0_init 20 = .ok (.aload_n 0, 1) := by decide +kernel
theorem dX0_init_21 : decode cX0_init 21 = .ok (.iconst 4, 1) := by decide +kernel
theorem dX0_init_22 : decode cX0_init 22 = .ok (.newarray .int, 2) := by decide +kernel
theorem dX0_init_24 : decode cX0_init 24 = .ok (.putfield 16, 3) := by decide +kernel
theorem dX0_init_27 : decode cX0_init 27 = .ok (.aload_n 0, 1) := by decide +kernel
theorem dX0_init_28 : decode cX0_init 28 = .ok (.iconst 4, 1) := by decide +kernel
theorem dX0_init_29 : decode cX0_init 29 = .ok (.newarray .int, 2) := by decide +kernel
theorem dX0_init_31 : decode cX0_init 31 = .ok (.putfield 19, 3) := by decide +kernel
theorem dX0_init_34 : decode cX0_init 34 = .ok (.aload_n 0, 1) := by decide +kernel
theorem dX0_init_35 : decode cX0_init 35 = .ok (.iconst 4, 1) := by decide +kernel
theorem dX0_init_36 : decode cX0_init 36 = .ok (.newarray .int, 2) := by decide +kernel
theorem dX0_init_38 : decode cX0_init 38 = .ok (.putfield 22, 3) := by decide +kernel
theorem dX0_init_41 : decode cX0_init 41 = .ok (.aload_n 0, 1) := by decide +kernel
theorem dX0_init_42 : decode cX0_init 42 = .ok (.sipush 500, 3) := by decide +kernel
theorem dX0_init_45 : decode cX0_init 45 = .ok (.newarray .int, 2) := by decide +kernel
theorem dX0_init_47 : decode cX0_init 47 = .ok (.putfield 25, 3) := by decide +kernel
theorem dX0_init_50 : decode cX0_init 50 = .ok (.aload_n 0, 1) := by decide +kernel
theorem dX0_init_51 : decode cX0_init 51 = .ok (.sipush 500, 3) := by decide +kernel
theorem dX0_init_54 : decode cX0_init 54 = .ok (.newarray .int, 2) := by decide +kernel
theorem dX0_init_56 : decode cX0_init 56 = .ok (.putfield 28, 3) := by decide +kernel
theorem dX0_init_59 : decode cX0_init 59 = .ok (.aload_n 0, 1) := by decide +kernel
theorem dX0_init_60 : decode cX0_init 60 = .ok (.sipush 548, 3) := by decide +kernel
theorem dX0_init_63 : decode cX0_init 63 = .ok (.newarray .int, 2) := by decide +kernel
theorem dX0_init_65 : decode cX0_init 65 = .ok (.putfield 31, 3) := by decide +kernel
theorem dX0_init_68 : decode cX0_init 68 = .ok (.aload_n 0, 1) := by decide +kernel
theorem dX0_init_69 : decode cX0_init 69 = .ok (.bipush 100, 2) := by decide +kernel
theorem dX0_init_71 : decode cX0_init 71 = .ok (.putfield 34, 3) := by decide +kernel
theorem dX0_init_74 : decode cX0_init 74 = .ok (.iconst 0, 1) := by decide +kernel
theorem dX0_init_75 : decode cX0_init 75 = .ok (.istore_n 1, 1) := by decide +kernel
theorem dX0_init_76 : decode cX0_init 76 = .ok (.iload_n 1, 1) := by decide +kernel
theorem dX0_init_77 : decode cX0_init 77 = .ok (.bipush 24, 2) := by decide +kernel
theorem dX0_init_79 : decode cX0_init 79 = .ok (.if_icmp .ge 17, 3) := by decide +kernel
theorem dX0_init_82 : decode cX0_init 82 = .ok (.aload_n 0, 1) := by decide +kernel
theorem dX0_init_83 : decode cX0_init 83 = .ok (.getfield 13, 3) := by decide +kernel
theorem dX0_init_86 : decode cX0_init 86 = .ok (.iload_n 1, 1) := by decide +kernel
theorem dX0_init_87 : decode cX0_init 87 = .ok (.bipush 10, 2) := by decide +kernel
theorem dX0_init_89 : decode cX0_init 89 = .ok (.iastore, 1) := by decide +kernel
theorem dX0_init_90 : decode cX0_init 90 = .ok (.iinc 1 1, 3) := by decide +kernel
theorem dX0_init_93 : decode cX0_init 93 = .ok (.goto (-17), 3) := by decide +kernel
theorem dX0_init_96 : decode cX0_init 96 = .ok (.return_, 1) := by decide +kernel
set_option maxRecDepth 20000 in
theorem ggX0_tide_X0_requireIndex : GoodIn wsX0_tide wsX0_requireIndex := goodIn_ca (goodIn_r _ [5, 6, 7] (by decide +kernel) (by decide +kernel)) (goodIn_sub (fun _ h => List.mem_cons_of_mem _ (List.mem_append_left _ (List.mem_append_right _ h))) (by decide +kernel))
set_option maxRecDepth 20000 in
theorem gX0_tide_X0_requireIndex : GoodIn wsX0_tide (va_wsS RX0 38 yX0_requireIndex wsX0_requireIndex) := goodIn_app (goodIn_of _ (by decide +kernel)) ggX0_tide_X0_requireIndex
set_option maxRecDepth 20000 in
theorem ggX0_tide_X0_requireRange : GoodIn wsX0_tide wsX0_requireRange := goodIn_ca (goodIn_r _ [10, 11, 12] (by decide +kernel) (by decide +kernel)) (goodIn_sub (fun _ h => List.mem_cons_of_mem _ (List.mem_append_right _ h)) (by decide +kernel))
set_option maxRecDepth 20000 in
theorem gX0_tide_X0_requireRange : GoodIn wsX0_tide (va_wsS RX0 42 yX0_requireRange wsX0_requireRange) := goodIn_app (goodIn_of _ (by decide +kernel)) ggX0_tide_X0_requireRange
theorem dX0_tide_0 : decode cX0_tide 0 = .ok (.iload_n 1, 1) := by decide +kernel
theorem dX0_tide_1 : decode cX0_tide 1 = .ok (.iconst 0, 1) := by decide +kernel
theorem dX0_tide_2 : decode cX0_tide 2 = .ok (.bipush 23, 2) := by decide +kernel
theorem dX0_tide_4 : decode cX0_tide 4 = .ok (.invokestatic 38, 3) := by decide +kernel
theorem dX0_tide_7 : decode cX0_tide 7 = .ok (.iload_n 2, 1) := by decide +kernel
theorem dX0_tide_8 : decode cX0_tide 8 = .ok (.bipush (-100), 2) := by decide +kernel
theorem dX0_tide_10 : decode cX0_tide 10 = .ok (.bipush 100, 2) := by decide +kernel
theorem dX0_tide_12 : decode cX0_tide 12 = .ok (.invokestatic 42, 3) := by decide +kernel
theorem dX0_tide_15 : decode cX0_tide 15 = .ok (.aload_n 0, 1) := by decide +kernel
theorem dX0_tide_16 : decode cX0_tide 16 = .ok (.getfield 9, 3) := by decide +kernel
theorem dX0_tide_19 : decode cX0_tide 19 = .ok (.iload_n 1, 1) := by decide +kernel
theorem dX0_tide_20 : decode cX0_tide 20 = .ok (.iaload, 1) := by decide +kernel
theorem dX0_tide_21 : decode cX0_tide 21 = .ok (.istore_n 3, 1) := by decide +kernel
theorem dX0_tide_22 : decode cX0_tide 22 = .ok (.aload_n 0, 1) := by decide +kernel
theorem dX0_tide_23 : decode cX0_tide 23 = .ok (.getfield 9, 3) := by decide +kernel
theorem dX0_tide_26 : decode cX0_tide 26 = .ok (.iload_n 1, 1) := by decide +kernel
theorem dX0_tide_27 : decode cX0_tide 27 = .ok (.iload_n 2, 1) := by decide +kernel
theorem dX0_tide_28 : decode cX0_tide 28 = .ok (.iastore, 1) := by decide +kernel
theorem dX0_tide_29 : decode cX0_tide 29 = .ok (.iload_n 3, 1) := by decide +kernel
theorem dX0_tide_30 : decode cX0_tide 30 = .ok (.ireturn, 1) := by decide +kernel
set_option maxRecDepth 20000 in
theorem ggX0_price_X0_requireIndex : GoodIn wsX0_price wsX0_requireIndex := goodIn_ca (goodIn_r _ [5, 6, 7] (by decide +kernel) (by decide +kernel)) (goodIn_sub (fun _ h => List.mem_cons_of_mem _ (List.mem_append_left _ (List.mem_append_right _ h))) (by decide +kernel))
set_option maxRecDepth 20000 in
theorem gX0_price_X0_requireIndex : GoodIn wsX0_price (va_wsS RX0 38 yX0_requireIndex wsX0_requireIndex) := goodIn_app (goodIn_of _ (by decide +kernel)) ggX0_price_X0_requireIndex
set_option maxRecDepth 20000 in
theorem ggX0_price_X0_requireRange : GoodIn wsX0_price wsX0_requireRange := goodIn_ca (goodIn_r _ [10, 11, 12] (by decide +kernel) (by decide +kernel)) (goodIn_sub (fun _ h => List.mem_cons_of_mem _ (List.mem_append_right _ h)) (by decide +kernel))
set_option maxRecDepth 20000 in
theorem gX0_price_X0_requireRange : GoodIn wsX0_price (va_wsS RX0 42 yX0_requireRange wsX0_requireRange) := goodIn_app (goodIn_of _ (by decide +kernel)) ggX0_price_X0_requireRange
theorem dX0_price_0 : decode cX0_price 0 = .ok (.iload_n 1, 1) := by decide +kernel
theorem dX0_price_1 : decode cX0_price 1 = .ok (.iconst 0, 1) := by decide +kernel
theorem dX0_price_2 : decode cX0_price 2 = .ok (.bipush 23, 2) := by decide +kernel
theorem dX0_price_4 : decode cX0_price 4 = .ok (.invokestatic 38, 3) := by decide +kernel
theorem dX0_price_7 : decode cX0_price 7 = .ok (.iload_n 2, 1) := by decide +kernel
theorem dX0_price_8 : decode cX0_price 8 = .ok (.iconst 1, 1) := by decide +kernel
theorem dX0_price_9 : decode cX0_price 9 = .ok (.sipush 200, 3) := by decide +kernel
theorem dX0_price_12 : decode cX0_price 12 = .ok (.invokestatic 42, 3) := by decide +kernel
theorem dX0_price_15 : decode cX0_price 15 = .ok (.aload_n 0, 1) := by decide +kernel
theorem dX0_price_16 : decode cX0_price 16 = .ok (.getfield 13, 3) := by decide +kernel
theorem dX0_price_19 : decode cX0_price 19 = .ok (.iload_n 1, 1) := by decide +kernel
theorem dX0_price_20 : decode cX0_price 20 = .ok (.iaload, 1) := by decide +kernel
theorem dX0_price_21 : decode cX0_price 21 = .ok (.istore_n 3, 1) := by decide +kernel
theorem dX0_price_22 : decode cX0_price 22 = .ok (.aload_n 0, 1) := by decide +kernel
theorem dX0_price_23 : decode cX0_price 23 = .ok (.getfield 13, 3) := by decide +kernel
theorem dX0_price_26 : decode cX0_price 26 = .ok (.iload_n 1, 1) := by decide +kernel
theorem dX0_price_27 : decode cX0_price 27 = .ok (.iload_n 2, 1) := by decide +kernel
theorem dX0_price_28 : decode cX0_price 28 = .ok (.iastore, 1) := by decide +kernel
theorem dX0_price_29 : decode cX0_price 29 = .ok (.iload_n 3, 1) := by decide +kernel
theorem dX0_price_30 : decode cX0_price 30 = .ok (.ireturn, 1) := by decide +kernel
set_option maxRecDepth 20000 in
theorem ggX0_wind_X0_requireRange : GoodIn wsX0_wind wsX0_requireRange := goodIn_ca (goodIn_r _ [5, 6, 7] (by decide +kernel) (by decide +kernel)) (goodIn_sub (fun _ h => List.mem_cons_of_mem _ (List.mem_append_right _ h)) (by decide +kernel))
set_option maxRecDepth 20000 in
theorem gX0_wind_X0_requireRange : GoodIn wsX0_wind (va_wsS RX0 42 yX0_requireRange wsX0_requireRange) := goodIn_app (goodIn_of _ (by decide +kernel)) ggX0_wind_X0_requireRange
theorem dX0_wind_0 : decode cX0_wind 0 = .ok (.iload_n 1, 1) := by decide +kernel
theorem dX0_wind_1 : decode cX0_wind 1 = .ok (.bipush (-20), 2) := by decide +kernel
theorem dX0_wind_3 : decode cX0_wind 3 = .ok (.bipush 20, 2) := by decide +kernel
theorem dX0_wind_5 : decode cX0_wind 5 = .ok (.invokestatic 42, 3) := by decide +kernel
theorem dX0_wind_8 : decode cX0_wind 8 = .ok (.aload_n 0, 1) := by decide +kernel
theorem dX0_wind_9 : decode cX0_wind 9 = .ok (.getfield 45, 3) := by decide +kernel
theorem dX0_wind_12 : decode cX0_wind 12 = .ok (.istore_n 2, 1) := by decide +kernel
theorem dX0_wind_13 : decode cX0_wind 13 = .ok (.aload_n 0, 1) := by decide +kernel
theorem dX0_wind_14 : decode cX0_wind 14 = .ok (.iload_n 1, 1) := by decide +kernel
theorem dX0_wind_15 : decode cX0_wind 15 = .ok (.putfield 45, 3) := by decide +kernel
theorem dX0_wind_18 : decode cX0_wind 18 = .ok (.iload_n 2, 1) := by decide +kernel
theorem dX0_wind_19 : decode cX0_wind 19 = .ok (.ireturn, 1) := by decide +kernel
theorem dX0_turbine_0 : decode cX0_turbine 0 = .ok (.aload_n 0, 1) := by decide +kernel
theorem dX0_turbine_1 : decode cX0_turbine 1 = .ok (.getfield 48, 3) := by decide +kernel
theorem dX0_turbine_4 : decode cX0_turbine 4 = .ok (.iconst 4, 1) := by decide +kernel
theorem dX0_turbine_5 : decode cX0_turbine 5 = .ok (.if_icmp .lt 13, 3) := by decide +kernel
theorem dX0_turbine_8 : decode cX0_turbine 8 = .ok (.new 51, 3) := by decide +kernel
theorem dX0_turbine_11 : decode cX0_turbine 11 = .ok (.dup, 1) := by decide +kernel
theorem dX0_turbine_12 : decode cX0_turbine 12 = .ok (.ldc 53, 2) := by decide +kernel
theorem dX0_turbine_14 : decode cX0_turbine 14 = .ok (.invokespecial 55, 3) := by decide +kernel
theorem dX0_turbine_17 : decode cX0_turbine 17 = .ok (.athrow, 1) := by decide +kernel
theorem dX0_turbine_18 : decode cX0_turbine 18 = .ok (.aload_n 0, 1) := by decide +kernel
theorem dX0_turbine_19 : decode cX0_turbine 19 = .ok (.dup, 1) := by decide +kernel
theorem dX0_turbine_20 : decode cX0_turbine 20 = .ok (.getfield 48, 3) := by decide +kernel
theorem dX0_turbine_23 : decode cX0_turbine 23 = .ok (.iconst 1, 1) := by decide +kernel
theorem dX0_turbine_24 : decode cX0_turbine 24 = .ok (.iadd, 1) := by decide +kernel
theorem dX0_turbine_25 : decode cX0_turbine 25 = .ok (.putfield 48, 3) := by decide +kernel
theorem dX0_turbine_28 : decode cX0_turbine 28 = .ok (.aload_n 0, 1) := by decide +kernel
theorem dX0_turbine_29 : decode cX0_turbine 29 = .ok (.getfield 48, 3) := by decide +kernel
theorem dX0_turbine_32 : decode cX0_turbine 32 = .ok (.iconst 1, 1) := by decide +kernel
theorem dX0_turbine_33 : decode cX0_turbine 33 = .ok (.isub, 1) := by decide +kernel
theorem dX0_turbine_34 : decode cX0_turbine 34 = .ok (.ireturn, 1) := by decide +kernel
set_option maxRecDepth 20000 in
theorem ggX0_gate_X0_requireIndex : GoodIn wsX0_gate wsX0_requireIndex := goodIn_ca (goodIn_r _ [6, 7, 8] (by decide +kernel) (by decide +kernel)) (goodIn_sub (fun _ h => List.mem_cons_of_mem _ (List.mem_append_left _ (List.mem_append_right _ h))) (by decide +kernel))
set_option maxRecDepth 20000 in
theorem gX0_gate_X0_requireIndex : GoodIn wsX0_gate (va_wsS RX0 38 yX0_requireIndex wsX0_requireIndex) := goodIn_app (goodIn_of _ (by decide +kernel)) ggX0_gate_X0_requireIndex
set_option maxRecDepth 20000 in
theorem ggX0_gate_X0_requireRange : GoodIn wsX0_gate wsX0_requireRange := goodIn_ca (goodIn_r _ [11, 12, 13] (by decide +kernel) (by decide +kernel)) (goodIn_sub (fun _ h => List.mem_cons_of_mem _ (List.mem_append_right _ h)) (by decide +kernel))
set_option maxRecDepth 20000 in
theorem gX0_gate_X0_requireRange : GoodIn wsX0_gate (va_wsS RX0 42 yX0_requireRange wsX0_requireRange) := goodIn_app (goodIn_of _ (by decide +kernel)) ggX0_gate_X0_requireRange
theorem dX0_gate_0 : decode cX0_gate 0 = .ok (.iload_n 1, 1) := by decide +kernel
theorem dX0_gate_1 : decode cX0_gate 1 = .ok (.iconst 0, 1) := by decide +kernel
theorem dX0_gate_2 : decode cX0_gate 2 = .ok (.aload_n 0, 1) := by decide +kernel
theorem dX0_gate_3 : decode cX0_gate 3 = .ok (.getfield 48, 3) := by decide +kernel
theorem dX0_gate_6 : decode cX0_gate 6 = .ok (.iconst 1, 1) := by decide +kernel
theorem dX0_gate_7 : decode cX0_gate 7 = .ok (.isub, 1) := by decide +kernel
theorem dX0_gate_8 : decode cX0_gate 8 = .ok (.invokestatic 38, 3) := by decide +kernel
theorem dX0_gate_11 : decode cX0_gate 11 = .ok (.iload_n 2, 1) := by decide +kernel
theorem dX0_gate_12 : decode cX0_gate 12 = .ok (.iconst 0, 1) := by decide +kernel
theorem dX0_gate_13 : decode cX0_gate 13 = .ok (.bipush 7, 2) := by decide +kernel
theorem dX0_gate_15 : decode cX0_gate 15 = .ok (.invokestatic 42, 3) := by decide +kernel
theorem dX0_gate_18 : decode cX0_gate 18 = .ok (.aload_n 0, 1) := by decide +kernel
theorem dX0_gate_19 : decode cX0_gate 19 = .ok (.getfield 16, 3) := by decide +kernel
theorem dX0_gate_22 : decode cX0_gate 22 = .ok (.iload_n 1, 1) := by decide +kernel
theorem dX0_gate_23 : decode cX0_gate 23 = .ok (.iaload, 1) := by decide +kernel
theorem dX0_gate_24 : decode cX0_gate 24 = .ok (.istore_n 3, 1) := by decide +kernel
theorem dX0_gate_25 : decode cX0_gate 25 = .ok (.aload_n 0, 1) := by decide +kernel
theorem dX0_gate_26 : decode cX0_gate 26 = .ok (.getfield 16, 3) := by decide +kernel
theorem dX0_gate_29 : decode cX0_gate 29 = .ok (.iload_n 1, 1) := by decide +kernel
theorem dX0_gate_30 : decode cX0_gate 30 = .ok (.iload_n 2, 1) := by decide +kernel
theorem dX0_gate_31 : decode cX0_gate 31 = .ok (.iastore, 1) := by decide +kernel
theorem dX0_gate_32 : decode cX0_gate 32 = .ok (.iload_n 3, 1) := by decide +kernel
theorem dX0_gate_33 : decode cX0_gate 33 = .ok (.ireturn, 1) := by decide +kernel
set_option maxRecDepth 20000 in
theorem ggX0_repair_X0_requireIndex : GoodIn wsX0_repair wsX0_requireIndex := goodIn_ca (goodIn_r _ [8, 9, 10] (by decide +kernel) (by decide +kernel)) (goodIn_sub (fun _ h => List.mem_cons_of_mem _ (List.mem_append_right _ h)) (by decide +kernel))
set_option maxRecDepth 20000 in
theorem gX0_repair_X0_requireIndex : GoodIn wsX0_repair (va_wsS RX0 38 yX0_requireIndex wsX0_requireIndex) := goodIn_app (goodIn_of _ (by decide +kernel)) ggX0_repair_X0_requireIndex
theorem dX0_repair_0 : decode cX0_repair 0 = .ok (.iload_n 1, 1) := by decide +kernel
theorem dX0_repair_1 : decode cX0_repair 1 = .ok (.iconst 0, 1) := by decide +kernel
theorem dX0_repair_2 : decode cX0_repair 2 = .ok (.aload_n 0, 1) := by decide +kernel
theorem dX0_repair_3 : decode cX0_repair 3 = .ok (.getfield 48, 3) := by decide +kernel
theorem dX0_repair_6 : decode cX0_repair 6 = .ok (.iconst 1, 1) := by decide +kernel
theorem dX0_repair_7 : decode cX0_repair 7 = .ok (.isub, 1) := by decide +kernel
theorem dX0_repair_8 : decode cX0_repair 8 = .ok (.invokestatic 38, 3) := by decide +kernel
theorem dX0_repair_11 : decode cX0_repair 11 = .ok (.aload_n 0, 1) := by decide +kernel
theorem dX0_repair_12 : decode cX0_repair 12 = .ok (.getfield 19, 3) := by decide +kernel
theorem dX0_repair_15 : decode cX0_repair 15 = .ok (.iload_n 1, 1) := by decide +kernel
theorem dX0_repair_16 : decode cX0_repair 16 = .ok (.iaload, 1) := by decide +kernel
theorem dX0_repair_17 : decode cX0_repair 17 = .ok (.istore_n 2, 1) := by decide +kernel
theorem dX0_repair_18 : decode cX0_repair 18 = .ok (.aload_n 0, 1) := by decide +kernel
theorem dX0_repair_19 : decode cX0_repair 19 = .ok (.getfield 19, 3) := by decide +kernel
theorem dX0_repair_22 : decode cX0_repair 22 = .ok (.iload_n 1, 1) := by decide +kernel
theorem dX0_repair_23 : decode cX0_repair 23 = .ok (.iconst 0, 1) := by decide +kernel
theorem dX0_repair_24 : decode cX0_repair 24 = .ok (.iastore, 1) := by decide +kernel
theorem dX0_repair_25 : decode cX0_repair 25 = .ok (.aload_n 0, 1) := by decide +kernel
theorem dX0_repair_26 : decode cX0_repair 26 = .ok (.getfield 22, 3) := by decide +kernel
theorem dX0_repair_29 : decode cX0_repair 29 = .ok (.iload_n 1, 1) := by decide +kernel
theorem dX0_repair_30 : decode cX0_repair 30 = .ok (.aload_n 0, 1) := by decide +kernel
theorem dX0_repair_31 : decode cX0_repair 31 = .ok (.getfield 58, 3) := by decide +kernel
theorem dX0_repair_34 : decode cX0_repair 34 = .ok (.iconst 5, 1) := by decide +kernel
theorem dX0_repair_35 : decode cX0_repair 35 = .ok (.iadd, 1) := by decide +kernel
theorem dX0_repair_36 : decode cX0_repair 36 = .ok (.iastore, 1) := by decide +kernel
theorem dX0_repair_37 : decode cX0_repair 37 = .ok (.iload_n 2, 1) := by decide +kernel
theorem dX0_repair_38 : decode cX0_repair 38 = .ok (.ireturn, 1) := by decide +kernel
set_option maxRecDepth 20000 in
theorem ggX0_run_X0_requireRange : GoodIn wsX0_run wsX0_requireRange := goodIn_ca (goodIn_r _ [6, 7, 8] (by decide +kernel) (by decide +kernel)) (goodIn_sub (fun _ h => List.mem_cons_of_mem _ (List.mem_append_right _ h)) (by decide +kernel))
set_option maxRecDepth 20000 in
theorem gX0_run_X0_requireRange : GoodIn wsX0_run (va_wsS RX0 42 yX0_requireRange wsX0_requireRange) := goodIn_app (goodIn_of _ (by decide +kernel)) ggX0_run_X0_requireRange
theorem dX0_run_0 : decode cX0_run 0 = .ok (.iload_n 1, 1) := by decide +kernel
theorem dX0_run_1 : decode cX0_run 1 = .ok (.iconst 0, 1) := by decide +kernel
theorem dX0_run_2 : decode cX0_run 2 = .ok (.sipush 1000, 3) := by decide +kernel
theorem dX0_run_5 : decode cX0_run 5 = .ok (.invokestatic 42, 3) := by decide +kernel
theorem dX0_run_8 : decode cX0_run 8 = .ok (.aload_n 0, 1) := by decide +kernel
theorem dX0_run_9 : decode cX0_run 9 = .ok (.iload_n 1, 1) := by decide +kernel
theorem dX0_run_10 : decode cX0_run 10 = .ok (.putfield 61, 3) := by decide +kernel
theorem dX0_run_13 : decode cX0_run 13 = .ok (.iload_n 1, 1) := by decide +kernel
theorem dX0_run_14 : decode cX0_run 14 = .ok (.aload_n 0, 1) := by decide +kernel
theorem dX0_run_15 : decode cX0_run 15 = .ok (.getfield 34, 3) := by decide +kernel
theorem dX0_run_18 : decode cX0_run 18 = .ok (.if_icmp .le 7, 3) := by decide +kernel
theorem dX0_run_21 : decode cX0_run 21 = .ok (.iconst 1, 1) := by decide +kernel
theorem dX0_run_22 : decode cX0_run 22 = .ok (.goto 4, 3) := by decide +kernel
theorem dX0_run_25 : decode cX0_run 25 = .ok (.iconst 0, 1) := by decide +kernel
theorem dX0_run_26 : decode cX0_run 26 = .ok (.ireturn, 1) := by decide +kernel
set_option maxRecDepth 20000 in
theorem ggX0_limit_X0_requireRange : GoodIn wsX0_limit wsX0_requireRange := goodIn_ca (goodIn_r _ [5, 6, 7] (by decide +kernel) (by decide +kernel)) (goodIn_sub (fun _ h => List.mem_cons_of_mem _ (List.mem_append_right _ h)) (by decide +kernel))
set_option maxRecDepth 20000 in
theorem gX0_limit_X0_requireRange : GoodIn wsX0_limit (va_wsS RX0 42 yX0_requireRange wsX0_requireRange) := goodIn_app (goodIn_of _ (by decide +kernel)) ggX0_limit_X0_requireRange
theorem dX0_limit_0 : decode cX0_limit 0 = .ok (.iload_n 1, 1) := by decide +kernel
theorem dX0_limit_1 : decode cX0_limit 1 = .ok (.iconst 0, 1) := by decide +kernel
theorem dX0_limit_2 : decode cX0_limit 2 = .ok (.sipush 1000, 3) := by decide +kernel
theorem dX0_limit_5 : decode cX0_limit 5 = .ok (.invokestatic 42, 3) := by decide +kernel
theorem dX0_limit_8 : decode cX0_limit 8 = .ok (.aload_n 0, 1) := by decide +kernel
theorem dX0_limit_9 : decode cX0_limit 9 = .ok (.getfield 34, 3) := by decide +kernel
theorem dX0_limit_12 : decode cX0_limit 12 = .ok (.istore_n 2, 1) := by decide +kernel
theorem dX0_limit_13 : decode cX0_limit 13 = .ok (.aload_n 0, 1) := by decide +kernel
theorem dX0_limit_14 : decode cX0_limit 14 = .ok (.iload_n 1, 1) := by decide +kernel
theorem dX0_limit_15 : decode cX0_limit 15 = .ok (.putfield 34, 3) := by decide +kernel
theorem dX0_limit_18 : decode cX0_limit 18 = .ok (.iload_n 2, 1) := by decide +kernel
theorem dX0_limit_19 : decode cX0_limit 19 = .ok (.ireturn, 1) := by decide +kernel
set_option maxRecDepth 20000 in
theorem ggX0_sell_X0_requireIndex : GoodIn wsX0_sell wsX0_requireIndex := goodIn_ca (goodIn_r _ [9, 10, 11] (by decide +kernel) (by decide +kernel)) (goodIn_sub (fun _ h => List.mem_cons_of_mem _ (List.mem_append_left _ (List.mem_append_right _ h))) (by decide +kernel))
set_option maxRecDepth 20000 in
theorem gX0_sell_X0_requireIndex : GoodIn wsX0_sell (va_wsS RX0 38 yX0_requireIndex wsX0_requireIndex) := goodIn_app (goodIn_of _ (by decide +kernel)) ggX0_sell_X0_requireIndex
set_option maxRecDepth 20000 in
theorem ggX0_sell_X0_requireRange : GoodIn wsX0_sell wsX0_requireRange := goodIn_ca (goodIn_r _ [14, 15, 16] (by decide +kernel) (by decide +kernel)) (goodIn_sub (fun _ h => List.mem_cons_of_mem _ (List.mem_append_right _ h)) (by decide +kernel))
set_option maxRecDepth 20000 in
theorem gX0_sell_X0_requireRange : GoodIn wsX0_sell (va_wsS RX0 42 yX0_requireRange wsX0_requireRange) := goodIn_app (goodIn_of _ (by decide +kernel)) ggX0_sell_X0_requireRange
set_option maxRecDepth 20000 in
theorem ggX0_sell_X0_worth : GoodIn wsX0_sell wsX0_worth := goodIn_r _ [19] (by decide +kernel) (by decide +kernel)
set_option maxRecDepth 20000 in
theorem gX0_sell_X0_worth : GoodIn wsX0_sell (va_wsS RX0 70 yX0_worth wsX0_worth) := goodIn_app (goodIn_of _ (by decide +kernel)) ggX0_sell_X0_worth
theorem dX0_sell_0 : decode cX0_sell 0 = .ok (.iload_n 1, 1) := by decide +kernel
theorem dX0_sell_1 : decode cX0_sell 1 = .ok (.aload_n 0, 1) := by decide +kernel
theorem dX0_sell_2 : decode cX0_sell 2 = .ok (.getfield 58, 3) := by decide +kernel
theorem dX0_sell_5 : decode cX0_sell 5 = .ok (.aload_n 0, 1) := by decide +kernel
theorem dX0_sell_6 : decode cX0_sell 6 = .ok (.getfield 58, 3) := by decide +kernel
theorem dX0_sell_9 : decode cX0_sell 9 = .ok (.bipush 47, 2) := by decide +kernel
theorem dX0_sell_11 : decode cX0_sell 11 = .ok (.iadd, 1) := by decide +kernel
theorem dX0_sell_12 : decode cX0_sell 12 = .ok (.invokestatic 38, 3) := by decide +kernel
theorem dX0_sell_15 : decode cX0_sell 15 = .ok (.iload_n 2, 1) := by decide +kernel
theorem dX0_sell_16 : decode cX0_sell 16 = .ok (.iconst 1, 1) := by decide +kernel
theorem dX0_sell_17 : decode cX0_sell 17 = .ok (.sipush 500, 3) := by decide +kernel
theorem dX0_sell_20 : decode cX0_sell 20 = .ok (.invokestatic 42, 3) := by decide +kernel
theorem dX0_sell_23 : decode cX0_sell 23 = .ok (.iload_n 3, 1) := by decide +kernel
theorem dX0_sell_24 : decode cX0_sell 24 = .ok (.iconst 1, 1) := by decide +kernel
theorem dX0_sell_25 : decode cX0_sell 25 = .ok (.sipush 200, 3) := by decide +kernel
theorem dX0_sell_28 : decode cX0_sell 28 = .ok (.invokestatic 42, 3) := by decide +kernel
theorem dX0_sell_31 : decode cX0_sell 31 = .ok (.aload_n 0, 1) := by decide +kernel
theorem dX0_sell_32 : decode cX0_sell 32 = .ok (.getfield 31, 3) := by decide +kernel
theorem dX0_sell_35 : decode cX0_sell 35 = .ok (.iload_n 1, 1) := by decide +kernel
theorem dX0_sell_36 : decode cX0_sell 36 = .ok (.iaload, 1) := by decide +kernel
theorem dX0_sell_37 : decode cX0_sell 37 = .ok (.iload_n 2, 1) := by decide +kernel
theorem dX0_sell_38 : decode cX0_sell 38 = .ok (.iadd, 1) := by decide +kernel
theorem dX0_sell_39 : decode cX0_sell 39 = .ok (.sipush 1000, 3) := by decide +kernel
theorem dX0_sell_42 : decode cX0_sell 42 = .ok (.if_icmp .le 13, 3) := by decide +kernel
theorem dX0_sell_45 : decode cX0_sell 45 = .ok (.new 51, 3) := by decide +kernel
theorem dX0_sell_48 : decode cX0_sell 48 = .ok (.dup, 1) := by decide +kernel
theorem dX0_sell_49 : decode cX0_sell 49 = .ok (.ldc 64, 2) := by decide +kernel
theorem dX0_sell_51 : decode cX0_sell 51 = .ok (.invokespecial 55, 3) := by decide +kernel
theorem dX0_sell_54 : decode cX0_sell 54 = .ok (.athrow, 1) := by decide +kernel
theorem dX0_sell_55 : decode cX0_sell 55 = .ok (.aload_n 0, 1) := by decide +kernel
theorem dX0_sell_56 : decode cX0_sell 56 = .ok (.getfield 31, 3) := by decide +kernel
theorem dX0_sell_59 : decode cX0_sell 59 = .ok (.iload_n 1, 1) := by decide +kernel
theorem dX0_sell_60 : decode cX0_sell 60 = .ok (.dup2, 1) := by decide +kernel
theorem dX0_sell_61 : decode cX0_sell 61 = .ok (.iaload, 1) := by decide +kernel
theorem dX0_sell_62 : decode cX0_sell 62 = .ok (.iload_n 2, 1) := by decide +kernel
theorem dX0_sell_63 : decode cX0_sell 63 = .ok (.iadd, 1) := by decide +kernel
theorem dX0_sell_64 : decode cX0_sell 64 = .ok (.iastore, 1) := by decide +kernel
theorem dX0_sell_65 : decode cX0_sell 65 = .ok (.aload_n 0, 1) := by decide +kernel
theorem dX0_sell_66 : decode cX0_sell 66 = .ok (.aload_n 0, 1) := by decide +kernel
theorem dX0_sell_67 : decode cX0_sell 67 = .ok (.getfield 66, 3) := by decide +kernel
theorem dX0_sell_70 : decode cX0_sell 70 = .ok (.iload_n 2, 1) := by decide +kernel
theorem dX0_sell_71 : decode cX0_sell 71 = .ok (.iload_n 3, 1) := by decide +kernel
theorem dX0_sell_72 : decode cX0_sell 72 = .ok (.invokestatic 70, 3) := by decide +kernel
theorem dX0_sell_75 : decode cX0_sell 75 = .ok (.fadd, 1) := by decide +kernel
theorem dX0_sell_76 : decode cX0_sell 76 = .ok (.putfield 66, 3) := by decide +kernel
theorem dX0_sell_79 : decode cX0_sell 79 = .ok (.aload_n 0, 1) := by decide +kernel
theorem dX0_sell_80 : decode cX0_sell 80 = .ok (.getfield 31, 3) := by decide +kernel
theorem dX0_sell_83 : decode cX0_sell 83 = .ok (.iload_n 1, 1) := by decide +kernel
theorem dX0_sell_84 : decode cX0_sell 84 = .ok (.iaload, 1) := by decide +kernel
theorem dX0_sell_85 : decode cX0_sell 85 = .ok (.ireturn, 1) := by decide +kernel
set_option maxRecDepth 20000 in
theorem ggX0_pass_X0_requireRange : GoodIn wsX0_pass wsX0_requireRange := goodIn_ca (goodIn_r _ [7, 8, 9] (by decide +kernel) (by decide +kernel)) (goodIn_sub (fun _ h => List.mem_cons_of_mem _ (List.mem_append_right _ h)) (by decide +kernel))
set_option maxRecDepth 20000 in
theorem gX0_pass_X0_requireRange : GoodIn wsX0_pass (va_wsS RX0 42 yX0_requireRange wsX0_requireRange) := goodIn_app (goodIn_of _ (by decide +kernel)) ggX0_pass_X0_requireRange
set_option maxRecDepth 20000 in
theorem ggX0_pass_X0_goBy : GoodIn wsX0_pass wsX0_goBy := goodIn_r _ [13, 14, 15, 16, 17, 3, 18, 19, 20, 6, 21, 22, 23, 24, 25, 26, 27, 28, 29, 30, 31, 32, 33, 34, 35, 36, 37, 38, 39, 40, 41, 42, 43, 44, 45, 46, 47, 48, 49, 50, 51, 52, 53, 54, 55, 56, 57, 58, 59, 60, 61, 62, 63, 64, 65, 66, 67, 68, 69, 70, 71, 72, 73, 74, 75, 76, 77, 78, 79, 80, 81] (by decide +kernel) (by decide +kernel)
set_option maxRecDepth 20000 in
theorem gX0_pass_X0_goBy : GoodIn wsX0_pass (wsV RX0 76 RX0 yX0_goBy wsX0_goBy) := goodIn_app (goodIn_of _ (by decide +kernel)) ggX0_pass_X0_goBy
theorem dX0_pass_0 : decode cX0_pass 0 = .ok (.iload_n 1, 1) := by decide +kernel
theorem dX0_pass_1 : decode cX0_pass 1 = .ok (.iconst 1, 1) := by decide +kernel
theorem dX0_pass_2 : decode cX0_pass 2 = .ok (.bipush 48, 2) := by decide +kernel
theorem dX0_pass_4 : decode cX0_pass 4 = .ok (.invokestatic 42, 3) := by decide +kernel
theorem dX0_pass_7 : decode cX0_pass 7 = .ok (.aload_n 0, 1) := by decide +kernel
theorem dX0_pass_8 : decode cX0_pass 8 = .ok (.getfield 58, 3) := by decide +kernel
theorem dX0_pass_11 : decode cX0_pass 11 = .ok (.iload_n 1, 1) := by decide +kernel
theorem dX0_pass_12 : decode cX0_pass 12 = .ok (.iadd, 1) := by decide +kernel
theorem dX0_pass_13 : decode cX0_pass 13 = .ok (.istore_n 2, 1) := by decide +kernel
theorem dX0_pass_14 : decode cX0_pass 14 = .ok (.iload_n 2, 1) := by decide +kernel
theorem dX0_pass_15 : decode cX0_pass 15 = .ok (.sipush 500, 3) := by decide +kernel
theorem dX0_pass_18 : decode cX0_pass 18 = .ok (.if_icmp .le 13, 3) := by decide +kernel
theorem dX0_pass_21 : decode cX0_pass 21 = .ok (.new 51, 3) := by decide +kernel
theorem dX0_pass_24 : decode cX0_pass 24 = .ok (.dup, 1) := by decide +kernel
theorem dX0_pass_25 : decode cX0_pass 25 = .ok (.ldc 74, 2) := by decide +kernel
theorem dX0_pass_27 : decode cX0_pass 27 = .ok (.invokespecial 55, 3) := by decide +kernel
theorem dX0_pass_30 : decode cX0_pass 30 = .ok (.athrow, 1) := by decide +kernel
theorem dX0_pass_31 : decode cX0_pass 31 = .ok (.aload_n 0, 1) := by decide +kernel
theorem dX0_pass_32 : decode cX0_pass 32 = .ok (.getfield 58, 3) := by decide +kernel
theorem dX0_pass_35 : decode cX0_pass 35 = .ok (.istore_n 3, 1) := by decide +kernel
theorem dX0_pass_36 : decode cX0_pass 36 = .ok (.iload_n 3, 1) := by decide +kernel
theorem dX0_pass_37 : decode cX0_pass 37 = .ok (.iload_n 2, 1) := by decide +kernel
theorem dX0_pass_38 : decode cX0_pass 38 = .ok (.if_icmp .ge 14, 3) := by decide +kernel
theorem dX0_pass_41 : decode cX0_pass 41 = .ok (.aload_n 0, 1) := by decide +kernel
theorem dX0_pass_42 : decode cX0_pass 42 = .ok (.iload_n 3, 1) := by decide +kernel
theorem dX0_pass_43 : decode cX0_pass 43 = .ok (.invokevirtual 76, 3) := by decide +kernel
theorem dX0_pass_46 : decode cX0_pass 46 = .ok (.iinc 3 1, 3) := by decide +kernel
theorem dX0_pass_49 : decode cX0_pass 49 = .ok (.goto (-13), 3) := by decide +kernel
theorem dX0_pass_52 : decode cX0_pass 52 = .ok (.aload_n 0, 1) := by decide +kernel
theorem dX0_pass_53 : decode cX0_pass 53 = .ok (.getfield 58, 3) := by decide +kernel
theorem dX0_pass_56 : decode cX0_pass 56 = .ok (.ireturn, 1) := by decide +kernel
theorem dX0_now_0 : decode cX0_now 0 = .ok (.aload_n 0, 1) := by decide +kernel
theorem dX0_now_1 : decode cX0_now 1 = .ok (.getfield 58, 3) := by decide +kernel
theorem dX0_now_4 : decode cX0_now 4 = .ok (.ireturn, 1) := by decide +kernel
set_option maxRecDepth 20000 in
theorem ggX0_made_X0_requireIndex : GoodIn wsX0_made wsX0_requireIndex := goodIn_ca (goodIn_r _ [6, 7, 8] (by decide +kernel) (by decide +kernel)) (goodIn_sub (fun _ h => List.mem_cons_of_mem _ (List.mem_append_right _ h)) (by decide +kernel))
set_option maxRecDepth 20000 in
theorem gX0_made_X0_requireIndex : GoodIn wsX0_made (va_wsS RX0 38 yX0_requireIndex wsX0_requireIndex) := goodIn_app (goodIn_of _ (by decide +kernel)) ggX0_made_X0_requireIndex
theorem dX0_made_0 : decode cX0_made 0 = .ok (.iload_n 1, 1) := by decide +kernel
theorem dX0_made_1 : decode cX0_made 1 = .ok (.iconst 0, 1) := by decide +kernel
theorem dX0_made_2 : decode cX0_made 2 = .ok (.aload_n 0, 1) := by decide +kernel
theorem dX0_made_3 : decode cX0_made 3 = .ok (.getfield 58, 3) := by decide +kernel
theorem dX0_made_6 : decode cX0_made 6 = .ok (.iconst 1, 1) := by decide +kernel
theorem dX0_made_7 : decode cX0_made 7 = .ok (.isub, 1) := by decide +kernel
theorem dX0_made_8 : decode cX0_made 8 = .ok (.invokestatic 38, 3) := by decide +kernel
theorem dX0_made_11 : decode cX0_made 11 = .ok (.aload_n 0, 1) := by decide +kernel
theorem dX0_made_12 : decode cX0_made 12 = .ok (.getfield 28, 3) := by decide +kernel
theorem dX0_made_15 : decode cX0_made 15 = .ok (.iload_n 1, 1) := by decide +kernel
theorem dX0_made_16 : decode cX0_made 16 = .ok (.iaload, 1) := by decide +kernel
theorem dX0_made_17 : decode cX0_made 17 = .ok (.ireturn, 1) := by decide +kernel
set_option maxRecDepth 20000 in
theorem ggX0_madeAnew_X0_requireIndex : GoodIn wsX0_madeAnew wsX0_requireIndex := goodIn_ca (goodIn_r _ [5, 6, 7] (by decide +kernel) (by decide +kernel)) (goodIn_sub (fun _ h => List.mem_cons_of_mem _ (List.mem_append_right _ h)) (by decide +kernel))
set_option maxRecDepth 20000 in
theorem gX0_madeAnew_X0_requireIndex : GoodIn wsX0_madeAnew (va_wsS RX0 38 yX0_requireIndex wsX0_requireIndex) := goodIn_app (goodIn_of _ (by decide +kernel)) ggX0_madeAnew_X0_requireIndex
set_option maxRecDepth 20000 in
theorem ggX0_madeAnew_X0_unitsFromNotes : GoodIn wsX0_madeAnew wsX0_unitsFromNotes := goodIn_r _ [11, 12, 13, 14, 4, 15, 16, 17, 18, 19, 20, 21, 22, 23, 24, 25, 26, 27, 28, 29, 30, 31, 32, 33, 34, 35, 36, 37, 38, 39, 40, 41, 42, 43, 44, 45, 46, 47, 48, 49, 50, 51, 52] (by decide +kernel) (by decide +kernel)
set_option maxRecDepth 20000 in
theorem gX0_madeAnew_X0_unitsFromNotes : GoodIn wsX0_madeAnew (wsV RX0 80 RX0 yX0_unitsFromNotes wsX0_unitsFromNotes) := goodIn_app (goodIn_of _ (by decide +kernel)) ggX0_madeAnew_X0_unitsFromNotes
theorem dX0_madeAnew_0 : decode cX0_madeAnew 0 = .ok (.iload_n 1, 1) := by decide +kernel
theorem dX0_madeAnew_1 : decode cX0_madeAnew 1 = .ok (.iconst 0, 1) := by decide +kernel
theorem dX0_madeAnew_2 : decode cX0_madeAnew 2 = .ok (.aload_n 0, 1) := by decide +kernel
theorem dX0_madeAnew_3 : decode cX0_madeAnew 3 = .ok (.getfield 58, 3) := by decide +kernel
theorem dX0_madeAnew_6 : decode cX0_madeAnew 6 = .ok (.iconst 1, 1) := by decide +kernel
theorem dX0_madeAnew_7 : decode cX0_madeAnew 7 = .ok (.isub, 1) := by decide +kernel
theorem dX0_madeAnew_8 : decode cX0_madeAnew 8 = .ok (.invokestatic 38, 3) := by decide +kernel
theorem dX0_madeAnew_11 : decode cX0_madeAnew 11 = .ok (.iconst 0, 1) := by decide +kernel
theorem dX0_madeAnew_12 : decode cX0_madeAnew 12 = .ok (.istore_n 2, 1) := by decide +kernel
theorem dX0_madeAnew_13 : decode cX0_madeAnew 13 = .ok (.iconst 0, 1) := by decide +kernel
theorem dX0_madeAnew_14 : decode cX0_madeAnew 14 = .ok (.istore_n 3, 1) := by decide +kernel
theorem dX0_madeAnew_15 : decode cX0_madeAnew 15 = .ok (.iload_n 3, 1) := by decide +kernel
theorem dX0_madeAnew_16 : decode cX0_madeAnew 16 = .ok (.iconst 4, 1) := by decide +kernel
theorem dX0_madeAnew_17 : decode cX0_madeAnew 17 = .ok (.if_icmp .ge 18, 3) := by decide +kernel
theorem dX0_madeAnew_20 : decode cX0_madeAnew 20 = .ok (.iload_n 2, 1) := by decide +kernel
theorem dX0_madeAnew_21 : decode cX0_madeAnew 21 = .ok (.aload_n 0, 1) := by decide +kernel
theorem dX0_madeAnew_22 : decode cX0_madeAnew 22 = .ok (.iload_n 3, 1) := by decide +kernel
theorem dX0_madeAnew_23 : decode cX0_madeAnew 23 = .ok (.iload_n 1, 1) := by decide +kernel
theorem dX0_madeAnew_24 : decode cX0_madeAnew 24 = .ok (.invokevirtual 80, 3) := by decide +kernel
theorem dX0_madeAnew_27 : decode cX0_madeAnew 27 = .ok (.iadd, 1) := by decide +kernel
theorem dX0_madeAnew_28 : decode cX0_madeAnew 28 = .ok (.istore_n 2, 1) := by decide +kernel
theorem dX0_madeAnew_29 : decode cX0_madeAnew 29 = .ok (.iinc 3 1, 3) := by decide +kernel
theorem dX0_madeAnew_32 : decode cX0_madeAnew 32 = .ok (.goto (-17), 3) := by decide +kernel
theorem dX0_madeAnew_35 : decode cX0_madeAnew 35 = .ok (.iload_n 2, 1) := by decide +kernel
theorem dX0_madeAnew_36 : decode cX0_madeAnew 36 = .ok (.ireturn, 1) := by decide +kernel
set_option maxRecDepth 20000 in
theorem ggX0_sold_X0_requireIndex : GoodIn wsX0_sold wsX0_requireIndex := goodIn_ca (goodIn_r _ [6, 7, 8] (by decide +kernel) (by decide +kernel)) (goodIn_sub (fun _ h => List.mem_cons_of_mem _ (List.mem_append_right _ h)) (by decide +kernel))
set_option maxRecDepth 20000 in
theorem gX0_sold_X0_requireIndex : GoodIn wsX0_sold (va_wsS RX0 38 yX0_requireIndex wsX0_requireIndex) := goodIn_app (goodIn_of _ (by decide +kernel)) ggX0_sold_X0_requireIndex
theorem dX0_sold_0 : decode cX0_sold 0 = .ok (.iload_n 1, 1) := by decide +kernel
theorem dX0_sold_1 : decode cX0_sold 1 = .ok (.iconst 0, 1) := by decide +kernel
theorem dX0_sold_2 : decode cX0_sold 2 = .ok (.aload_n 0, 1) := by decide +kernel
theorem dX0_sold_3 : decode cX0_sold 3 = .ok (.getfield 58, 3) := by decide +kernel
theorem dX0_sold_6 : decode cX0_sold 6 = .ok (.bipush 47, 2) := by decide +kernel
theorem dX0_sold_8 : decode cX0_sold 8 = .ok (.iadd, 1) := by decide +kernel
theorem dX0_sold_9 : decode cX0_sold 9 = .ok (.invokestatic 38, 3) := by decide +kernel
theorem dX0_sold_12 : decode cX0_sold 12 = .ok (.aload_n 0, 1) := by decide +kernel
theorem dX0_sold_13 : decode cX0_sold 13 = .ok (.getfield 31, 3) := by decide +kernel
theorem dX0_sold_16 : decode cX0_sold 16 = .ok (.iload_n 1, 1) := by decide +kernel
theorem dX0_sold_17 : decode cX0_sold 17 = .ok (.iaload, 1) := by decide +kernel
theorem dX0_sold_18 : decode cX0_sold 18 = .ok (.ireturn, 1) := by decide +kernel
set_option maxRecDepth 20000 in
theorem ggX0_bought_X0_requireIndex : GoodIn wsX0_bought wsX0_requireIndex := goodIn_ca (goodIn_r _ [11, 12, 13] (by decide +kernel) (by decide +kernel)) (goodIn_sub (fun _ h => List.mem_cons_of_mem _ (List.mem_append_right _ h)) (by decide +kernel))
set_option maxRecDepth 20000 in
theorem gX0_bought_X0_requireIndex : GoodIn wsX0_bought (va_wsS RX0 38 yX0_requireIndex wsX0_requireIndex) := goodIn_app (goodIn_of _ (by decide +kernel)) ggX0_bought_X0_requireIndex
theorem dX0_bought_0 : decode cX0_bought 0 = .ok (.iload_n 1, 1) := by decide +kernel
theorem dX0_bought_1 : decode cX0_bought 1 = .ok (.iconst 0, 1) := by decide +kernel
theorem dX0_bought_2 : decode cX0_bought 2 = .ok (.aload_n 0, 1) := by decide +kernel
theorem dX0_bought_3 : decode cX0_bought 3 = .ok (.getfield 58, 3) := by decide +kernel
theorem dX0_bought_6 : decode cX0_bought 6 = .ok (.iconst 1, 1) := by decide +kernel
theorem dX0_bought_7 : decode cX0_bought 7 = .ok (.isub, 1) := by decide +kernel
theorem dX0_bought_8 : decode cX0_bought 8 = .ok (.invokestatic 38, 3) := by decide +kernel
theorem dX0_bought_11 : decode cX0_bought 11 = .ok (.iconst 0, 1) := by decide +kernel
theorem dX0_bought_12 : decode cX0_bought 12 = .ok (.aload_n 0, 1) := by decide +kernel
theorem dX0_bought_13 : decode cX0_bought 13 = .ok (.getfield 31, 3) := by decide +kernel
theorem dX0_bought_16 : decode cX0_bought 16 = .ok (.iload_n 1, 1) := by decide +kernel
theorem dX0_bought_17 : decode cX0_bought 17 = .ok (.iaload, 1) := by decide +kernel
theorem dX0_bought_18 : decode cX0_bought 18 = .ok (.aload_n 0, 1) := by decide +kernel
theorem dX0_bought_19 : decode cX0_bought 19 = .ok (.getfield 28, 3) := by decide +kernel
theorem dX0_bought_22 : decode cX0_bought 22 = .ok (.iload_n 1, 1) := by decide +kernel
theorem dX0_bought_23 : decode cX0_bought 23 = .ok (.iaload, 1) := by decide +kernel
theorem dX0_bought_24 : decode cX0_bought 24 = .ok (.isub, 1) := by decide +kernel
theorem dX0_bought_25 : decode cX0_bought 25 = .ok (.invokestatic 84, 3) := by decide +kernel
theorem dX0_bought_28 : decode cX0_bought 28 = .ok (.ireturn, 1) := by decide +kernel
set_option maxRecDepth 20000 in
theorem ggX0_head_X0_requireIndex : GoodIn wsX0_head wsX0_requireIndex := goodIn_ca (goodIn_r _ [6, 7, 8] (by decide +kernel) (by decide +kernel)) (goodIn_sub (fun _ h => List.mem_cons_of_mem _ (List.mem_append_right _ h)) (by decide +kernel))
set_option maxRecDepth 20000 in
theorem gX0_head_X0_requireIndex : GoodIn wsX0_head (va_wsS RX0 38 yX0_requireIndex wsX0_requireIndex) := goodIn_app (goodIn_of _ (by decide +kernel)) ggX0_head_X0_requireIndex
set_option maxRecDepth 20000 in
theorem ggX0_head_X0_notedHead : GoodIn wsX0_head wsX0_notedHead := goodIn_r _ [11] (by decide +kernel) (by decide +kernel)
set_option maxRecDepth 20000 in
theorem gX0_head_X0_notedHead : GoodIn wsX0_head (va_wsS RX0 89 yX0_notedHead wsX0_notedHead) := goodIn_app (goodIn_of _ (by decide +kernel)) ggX0_head_X0_notedHead
theorem dX0_head_0 : decode cX0_head 0 = .ok (.iload_n 1, 1) := by decide +kernel
theorem dX0_head_1 : decode cX0_head 1 = .ok (.iconst 0, 1) := by decide +kernel
theorem dX0_head_2 : decode cX0_head 2 = .ok (.aload_n 0, 1) := by decide +kernel
theorem dX0_head_3 : decode cX0_head 3 = .ok (.getfield 58, 3) := by decide +kernel
theorem dX0_head_6 : decode cX0_head 6 = .ok (.iconst 1, 1) := by decide +kernel
theorem dX0_head_7 : decode cX0_head 7 = .ok (.isub, 1) := by decide +kernel
theorem dX0_head_8 : decode cX0_head 8 = .ok (.invokestatic 38, 3) := by decide +kernel
theorem dX0_head_11 : decode cX0_head 11 = .ok (.aload_n 0, 1) := by decide +kernel
theorem dX0_head_12 : decode cX0_head 12 = .ok (.getfield 25, 3) := by decide +kernel
theorem dX0_head_15 : decode cX0_head 15 = .ok (.iload_n 1, 1) := by decide +kernel
theorem dX0_head_16 : decode cX0_head 16 = .ok (.iaload, 1) := by decide +kernel
theorem dX0_head_17 : decode cX0_head 17 = .ok (.invokestatic 89, 3) := by decide +kernel
theorem dX0_head_20 : decode cX0_head 20 = .ok (.ireturn, 1) := by decide +kernel
set_option maxRecDepth 20000 in
theorem ggX0_about_X0_requireIndex : GoodIn wsX0_about wsX0_requireIndex := goodIn_ca (goodIn_r _ [13, 14, 15] (by decide +kernel) (by decide +kernel)) (goodIn_sub (fun _ h => List.mem_cons_of_mem _ (List.mem_append_left _ (List.mem_append_right _ h))) (by decide +kernel))
set_option maxRecDepth 20000 in
theorem gX0_about_X0_requireIndex : GoodIn wsX0_about (va_wsS RX0 38 yX0_requireIndex wsX0_requireIndex) := goodIn_app (goodIn_of _ (by decide +kernel)) ggX0_about_X0_requireIndex
set_option maxRecDepth 20000 in
theorem ggX0_about_X0_requireRange : GoodIn wsX0_about wsX0_requireRange := goodIn_ca (goodIn_r _ [18, 19, 20] (by decide +kernel) (by decide +kernel)) (goodIn_sub (fun _ h => List.mem_cons_of_mem _ (List.mem_append_right _ h)) (by decide +kernel))
set_option maxRecDepth 20000 in
theorem gX0_about_X0_requireRange : GoodIn wsX0_about (va_wsS RX0 42 yX0_requireRange wsX0_requireRange) := goodIn_app (goodIn_of _ (by decide +kernel)) ggX0_about_X0_requireRange
theorem dX0_about_0 : decode cX0_about 0 = .ok (.iload_n 1, 1) := by decide +kernel
theorem dX0_about_1 : decode cX0_about 1 = .ok (.iconst 0, 1) := by decide +kernel
theorem dX0_about_2 : decode cX0_about 2 = .ok (.aload_n 0, 1) := by decide +kernel
theorem dX0_about_3 : decode cX0_about 3 = .ok (.getfield 48, 3) := by decide +kernel
theorem dX0_about_6 : decode cX0_about 6 = .ok (.iconst 1, 1) := by decide +kernel
theorem dX0_about_7 : decode cX0_about 7 = .ok (.isub, 1) := by decide +kernel
theorem dX0_about_8 : decode cX0_about 8 = .ok (.invokestatic 38, 3) := by decide +kernel
theorem dX0_about_11 : decode cX0_about 11 = .ok (.iload_n 2, 1) := by decide +kernel
theorem dX0_about_12 : decode cX0_about 12 = .ok (.iconst 0, 1) := by decide +kernel
theorem dX0_about_13 : decode cX0_about 13 = .ok (.iconst 2, 1) := by decide +kernel
theorem dX0_about_14 : decode cX0_about 14 = .ok (.invokestatic 42, 3) := by decide +kernel
theorem dX0_about_17 : decode cX0_about 17 = .ok (.iload_n 2, 1) := by decide +kernel
theorem dX0_about_18 : decode cX0_about 18 = .ok (.ifCond .ne 10, 3) := by decide +kernel
theorem dX0_about_21 : decode cX0_about 21 = .ok (.aload_n 0, 1) := by decide +kernel
theorem dX0_about_22 : decode cX0_about 22 = .ok (.getfield 16, 3) := by decide +kernel
theorem dX0_about_25 : decode cX0_about 25 = .ok (.iload_n 1, 1) := by decide +kernel
theorem dX0_about_26 : decode cX0_about 26 = .ok (.iaload, 1) := by decide +kernel
theorem dX0_about_27 : decode cX0_about 27 = .ok (.ireturn, 1) := by decide +kernel
theorem dX0_about_28 : decode cX0_about 28 = .ok (.iload_n 2, 1) := by decide +kernel
theorem dX0_about_29 : decode cX0_about 29 = .ok (.iconst 1, 1) := by decide +kernel
theorem dX0_about_30 : decode cX0_about 30 = .ok (.if_icmp .ne 10, 3) := by decide +kernel
theorem dX0_about_33 : decode cX0_about 33 = .ok (.aload_n 0, 1) := by decide +kernel
theorem dX0_about_34 : decode cX0_about 34 = .ok (.getfield 19, 3) := by decide +kernel
theorem dX0_about_37 : decode cX0_about 37 = .ok (.iload_n 1, 1) := by decide +kernel
theorem dX0_about_38 : decode cX0_about 38 = .ok (.iaload, 1) := by decide +kernel
theorem dX0_about_39 : decode cX0_about 39 = .ok (.ireturn, 1) := by decide +kernel
theorem dX0_about_40 : decode cX0_about 40 = .ok (.iconst 0, 1) := by decide +kernel
theorem dX0_about_41 : decode cX0_about 41 = .ok (.aload_n 0, 1) := by decide +kernel
theorem dX0_about_42 : decode cX0_about 42 = .ok (.getfield 22, 3) := by decide +kernel
theorem dX0_about_45 : decode cX0_about 45 = .ok (.iload_n 1, 1) := by decide +kernel
theorem dX0_about_46 : decode cX0_about 46 = .ok (.iaload, 1) := by decide +kernel
theorem dX0_about_47 : decode cX0_about 47 = .ok (.aload_n 0, 1) := by decide +kernel
theorem dX0_about_48 : decode cX0_about 48 = .ok (.getfield 58, 3) := by decide +kernel
theorem dX0_about_51 : decode cX0_about 51 = .ok (.isub, 1) := by decide +kernel
theorem dX0_about_52 : decode cX0_about 52 = .ok (.invokestatic 84, 3) := by decide +kernel
theorem dX0_about_55 : decode cX0_about 55 = .ok (.ireturn, 1) := by decide +kernel
theorem dX0_closed_0 : decode cX0_closed 0 = .ok (.iconst 0, 1) := by decide +kernel
theorem dX0_closed_1 : decode cX0_closed 1 = .ok (.aload_n 0, 1) := by decide +kernel
theorem dX0_closed_2 : decode cX0_closed 2 = .ok (.getfield 93, 3) := by decide +kernel
theorem dX0_closed_5 : decode cX0_closed 5 = .ok (.aload_n 0, 1) := by decide +kernel
theorem dX0_closed_6 : decode cX0_closed 6 = .ok (.getfield 58, 3) := by decide +kernel
theorem dX0_closed_9 : decode cX0_closed 9 = .ok (.isub, 1) := by decide +kernel
theorem dX0_closed_10 : decode cX0_closed 10 = .ok (.invokestatic 84, 3) := by decide +kernel
theorem dX0_closed_13 : decode cX0_closed 13 = .ok (.ireturn, 1) := by decide +kernel
set_option maxRecDepth 20000 in
theorem ggX0_money_X0_bitsOf : GoodIn wsX0_money wsX0_bitsOf := goodIn_r _ [5, 6, 7, 8] (by decide +kernel) (by decide +kernel)
set_option maxRecDepth 20000 in
theorem gX0_money_X0_bitsOf : GoodIn wsX0_money (va_wsS RX0 96 yX0_bitsOf wsX0_bitsOf) := goodIn_app (goodIn_of _ (by decide +kernel)) ggX0_money_X0_bitsOf
theorem dX0_money_0 : decode cX0_money 0 = .ok (.aload_n 0, 1) := by decide +kernel
theorem dX0_money_1 : decode cX0_money 1 = .ok (.getfield 66, 3) := by decide +kernel
theorem dX0_money_4 : decode cX0_money 4 = .ok (.invokestatic 96, 3) := by decide +kernel
theorem dX0_money_7 : decode cX0_money 7 = .ok (.ireturn, 1) := by decide +kernel
set_option maxRecDepth 20000 in
theorem ggX0_goBy_X0_noteFor : GoodIn wsX0_goBy wsX0_noteFor := goodIn_r _ [10, 11, 12, 13, 14, 15, 16, 17, 18, 19, 4, 20, 21, 56, 57, 58, 59, 60, 61, 62, 63, 64, 65, 66, 67, 68, 69, 70] (by decide +kernel) (by decide +kernel)
set_option maxRecDepth 20000 in
theorem gX0_goBy_X0_noteFor : GoodIn wsX0_goBy (wsV RX0 100 RX0 yX0_noteFor wsX0_noteFor) := goodIn_app (goodIn_of _ (by decide +kernel)) ggX0_goBy_X0_noteFor
set_option maxRecDepth 20000 in
theorem ggX0_goBy_X0_notedRun : GoodIn wsX0_goBy wsX0_notedRun := goodIn_r _ [24] (by decide +kernel) (by decide +kernel)
set_option maxRecDepth 20000 in
theorem gX0_goBy_X0_notedRun : GoodIn wsX0_goBy (va_wsS RX0 103 yX0_notedRun wsX0_notedRun) := goodIn_app (goodIn_of _ (by decide +kernel)) ggX0_goBy_X0_notedRun
set_option maxRecDepth 20000 in
theorem ggX0_goBy_X0_notedHead : GoodIn wsX0_goBy wsX0_notedHead := goodIn_r _ [27] (by decide +kernel) (by decide +kernel)
set_option maxRecDepth 20000 in
theorem gX0_goBy_X0_notedHead : GoodIn wsX0_goBy (va_wsS RX0 89 yX0_notedHead wsX0_notedHead) := goodIn_app (goodIn_of _ (by decide +kernel)) ggX0_goBy_X0_notedHead
set_option maxRecDepth 20000 in
theorem ggX0_goBy_X0_makeUnits : GoodIn wsX0_goBy wsX0_makeUnits := goodIn_r _ [31, 17, 18, 32, 19, 1, 33, 34, 9, 35, 36, 37, 38, 39, 40, 41, 42, 43, 15, 44, 56, 57, 58, 59, 60, 61, 62, 63, 64, 65, 66, 67, 68, 69, 70] (by decide +kernel) (by decide +kernel)
set_option maxRecDepth 20000 in
theorem gX0_goBy_X0_makeUnits : GoodIn wsX0_goBy (wsV RX0 107 RX0 yX0_makeUnits wsX0_makeUnits) := goodIn_app (goodIn_of _ (by decide +kernel)) ggX0_goBy_X0_makeUnits
set_option maxRecDepth 20000 in
theorem ggX0_goBy_X0_settle : GoodIn wsX0_goBy wsX0_settle := goodIn_r _ [48, 49, 3, 50, 51, 52, 53, 54, 9, 55, 56, 57, 58, 59, 60, 61, 62, 63, 64, 65, 66, 67, 68, 69, 70] (by decide +kernel) (by decide +kernel)
set_option maxRecDepth 20000 in
theorem gX0_goBy_X0_settle : GoodIn wsX0_goBy (wsV RX0 110 RX0 yX0_settle wsX0_settle) := goodIn_app (goodIn_of _ (by decide +kernel)) ggX0_goBy_X0_settle
theorem dX0_goBy_0 : decode cX0_goBy 0 = .ok (.aload_n 0, 1) := by decide +kernel
theorem dX0_goBy_1 : decode cX0_goBy 1 = .ok (.iload_n 1, 1) := by decide +kernel
theorem dX0_goBy_2 : decode cX0_goBy 2 = .ok (.invokevirtual 100, 3) := by decide +kernel
theorem dX0_goBy_5 : decode cX0_goBy 5 = .ok (.istore_n 2, 1) := by decide +kernel
theorem dX0_goBy_6 : decode cX0_goBy 6 = .ok (.iload_n 2, 1) := by decide +kernel
theorem dX0_goBy_7 : decode cX0_goBy 7 = .ok (.invokestatic 103, 3) := by decide +kernel
theorem dX0_goBy_10 : decode cX0_goBy 10 = .ok (.ifCond .eq 10, 3) := by decide +kernel
theorem dX0_goBy_13 : decode cX0_goBy 13 = .ok (.aload_n 0, 1) := by decide +kernel
theorem dX0_goBy_14 : decode cX0_goBy 14 = .ok (.iload_n 1, 1) := by decide +kernel
theorem dX0_goBy_15 : decode cX0_goBy 15 = .ok (.iconst 3, 1) := by decide +kernel
theorem dX0_goBy_16 : decode cX0_goBy 16 = .ok (.iadd, 1) := by decide +kernel
theorem dX0_goBy_17 : decode cX0_goBy 17 = .ok (.putfield 93, 3) := by decide +kernel
theorem dX0_goBy_20 : decode cX0_goBy 20 = .ok (.aload_n 0, 1) := by decide +kernel
theorem dX0_goBy_21 : decode cX0_goBy 21 = .ok (.getfield 25, 3) := by decide +kernel
theorem dX0_goBy_24 : decode cX0_goBy 24 = .ok (.iload_n 1, 1) := by decide +kernel
theorem dX0_goBy_25 : decode cX0_goBy 25 = .ok (.iload_n 2, 1) := by decide +kernel
theorem dX0_goBy_26 : decode cX0_goBy 26 = .ok (.iastore, 1) := by decide +kernel
theorem dX0_goBy_27 : decode cX0_goBy 27 = .ok (.aload_n 0, 1) := by decide +kernel
theorem dX0_goBy_28 : decode cX0_goBy 28 = .ok (.getfield 28, 3) := by decide +kernel
theorem dX0_goBy_31 : decode cX0_goBy 31 = .ok (.iload_n 1, 1) := by decide +kernel
theorem dX0_goBy_32 : decode cX0_goBy 32 = .ok (.aload_n 0, 1) := by decide +kernel
theorem dX0_goBy_33 : decode cX0_goBy 33 = .ok (.iload_n 1, 1) := by decide +kernel
theorem dX0_goBy_34 : decode cX0_goBy 34 = .ok (.iload_n 2, 1) := by decide +kernel
theorem dX0_goBy_35 : decode cX0_goBy 35 = .ok (.invokestatic 89, 3) := by decide +kernel
theorem dX0_goBy_38 : decode cX0_goBy 38 = .ok (.invokevirtual 107, 3) := by decide +kernel
theorem dX0_goBy_41 : decode cX0_goBy 41 = .ok (.iastore, 1) := by decide +kernel
theorem dX0_goBy_42 : decode cX0_goBy 42 = .ok (.aload_n 0, 1) := by decide +kernel
theorem dX0_goBy_43 : decode cX0_goBy 43 = .ok (.iload_n 1, 1) := by decide +kernel
theorem dX0_goBy_44 : decode cX0_goBy 44 = .ok (.invokevirtual 110, 3) := by decide +kernel
theorem dX0_goBy_47 : decode cX0_goBy 47 = .ok (.aload_n 0, 1) := by decide +kernel
theorem dX0_goBy_48 : decode cX0_goBy 48 = .ok (.iconst 0, 1) := by decide +kernel
theorem dX0_goBy_49 : decode cX0_goBy 49 = .ok (.putfield 61, 3) := by decide +kernel
theorem dX0_goBy_52 : decode cX0_goBy 52 = .ok (.aload_n 0, 1) := by decide +kernel
theorem dX0_goBy_53 : decode cX0_goBy 53 = .ok (.iload_n 1, 1) := by decide +kernel
theorem dX0_goBy_54 : decode cX0_goBy 54 = .ok (.iconst 1, 1) := by decide +kernel
theorem dX0_goBy_55 : decode cX0_goBy 55 = .ok (.iadd, 1) := by decide +kernel
theorem dX0_goBy_56 : decode cX0_goBy 56 = .ok (.putfield 58, 3) := by decide +kernel
theorem dX0_goBy_59 : decode cX0_goBy 59 = .ok (.return_, 1) := by decide +kernel
theorem dX0_noteFor_0 : decode cX0_noteFor 0 = .ok (.aload_n 0, 1) := by decide +kernel
theorem dX0_noteFor_1 : decode cX0_noteFor 1 = .ok (.getfield 9, 3) := by decide +kernel
theorem dX0_noteFor_4 : decode cX0_noteFor 4 = .ok (.iload_n 1, 1) := by decide +kernel
theorem dX0_noteFor_5 : decode cX0_noteFor 5 = .ok (.bipush 24, 2) := by decide +kernel
theorem dX0_noteFor_7 : decode cX0_noteFor 7 = .ok (.irem, 1) := by decide +kernel
theorem dX0_noteFor_8 : decode cX0_noteFor 8 = .ok (.iaload, 1) := by decide +kernel
theorem dX0_noteFor_9 : decode cX0_noteFor 9 = .ok (.aload_n 0, 1) := by decide +kernel
theorem dX0_noteFor_10 : decode cX0_noteFor 10 = .ok (.getfield 45, 3) := by decide +kernel
theorem dX0_noteFor_13 : decode cX0_noteFor 13 = .ok (.iadd, 1) := by decide +kernel
theorem dX0_noteFor_14 : decode cX0_noteFor 14 = .ok (.invokestatic 113, 3) := by decide +kernel
theorem dX0_noteFor_17 : decode cX0_noteFor 17 = .ok (.istore_n 2, 1) := by decide +kernel
theorem dX0_noteFor_18 : decode cX0_noteFor 18 = .ok (.iconst 0, 1) := by decide +kernel
theorem dX0_noteFor_19 : decode cX0_noteFor 19 = .ok (.istore_n 3, 1) := by decide +kernel
theorem dX0_noteFor_20 : decode cX0_noteFor 20 = .ok (.iload_n 3, 1) := by decide +kernel
theorem dX0_noteFor_21 : decode cX0_noteFor 21 = .ok (.aload_n 0, 1) := by decide +kernel
theorem dX0_noteFor_22 : decode cX0_noteFor 22 = .ok (.getfield 48, 3) := by decide +kernel
theorem dX0_noteFor_25 : decode cX0_noteFor 25 = .ok (.if_icmp .ge 46, 3) := by decide +kernel
theorem dX0_noteFor_28 : decode cX0_noteFor 28 = .ok (.iload_n 2, 1) := by decide +kernel
theorem dX0_noteFor_29 : decode cX0_noteFor 29 = .ok (.aload_n 0, 1) := by decide +kernel
theorem dX0_noteFor_30 : decode cX0_noteFor 30 = .ok (.getfield 16, 3) := by decide +kernel
theorem dX0_noteFor_33 : decode cX0_noteFor 33 = .ok (.iload_n 3, 1) := by decide +kernel
theorem dX0_noteFor_34 : decode cX0_noteFor 34 = .ok (.iaload, 1) := by decide +kernel
theorem dX0_noteFor_35 : decode cX0_noteFor 35 = .ok (.bipush 7, 2) := by decide +kernel
theorem dX0_noteFor_37 : decode cX0_noteFor 37 = .ok (.iconst 3, 1) := by decide +kernel
theorem dX0_noteFor_38 : decode cX0_noteFor 38 = .ok (.iload_n 3, 1) := by decide +kernel
theorem dX0_noteFor_39 : decode cX0_noteFor 39 = .ok (.imul, 1) := by decide +kernel
theorem dX0_noteFor_40 : decode cX0_noteFor 40 = .ok (.iadd, 1) := by decide +kernel
theorem dX0_noteFor_41 : decode cX0_noteFor 41 = .ok (.ishl, 1) := by decide +kernel
theorem dX0_noteFor_42 : decode cX0_noteFor 42 = .ok (.ior, 1) := by decide +kernel
theorem dX0_noteFor_43 : decode cX0_noteFor 43 = .ok (.istore_n 2, 1) := by decide +kernel
theorem dX0_noteFor_44 : decode cX0_noteFor 44 = .ok (.aload_n 0, 1) := by decide +kernel
theorem dX0_noteFor_45 : decode cX0_noteFor 45 = .ok (.getfield 22, 3) := by decide +kernel
theorem dX0_noteFor_48 : decode cX0_noteFor 48 = .ok (.iload_n 3, 1) := by decide +kernel
theorem dX0_noteFor_49 : decode cX0_noteFor 49 = .ok (.iaload, 1) := by decide +kernel
theorem dX0_noteFor_50 : decode cX0_noteFor 50 = .ok (.iload_n 1, 1) := by decide +kernel
theorem dX0_noteFor_51 : decode cX0_noteFor 51 = .ok (.iconst 5, 1) := by decide +kernel
theorem dX0_noteFor_52 : decode cX0_noteFor 52 = .ok (.iadd, 1) := by decide +kernel
theorem dX0_noteFor_53 : decode cX0_noteFor 53 = .ok (.if_icmp .ne 12, 3) := by decide +kernel
theorem dX0_noteFor_56 : decode cX0_noteFor 56 = .ok (.iload_n 2, 1) := by decide +kernel
theorem dX0_noteFor_57 : decode cX0_noteFor 57 = .ok (.iconst 1, 1) := by decide +kernel
theorem dX0_noteFor_58 : decode cX0_noteFor 58 = .ok (.bipush 19, 2) := by decide +kernel
theorem dX0_noteFor_60 : decode cX0_noteFor 60 = .ok (.iload_n 3, 1) := by decide +kernel
theorem dX0_noteFor_61 : decode cX0_noteFor 61 = .ok (.iadd, 1) := by decide +kernel
theorem dX0_noteFor_62 : decode cX0_noteFor 62 = .ok (.ishl, 1) := by decide +kernel
theorem dX0_noteFor_63 : decode cX0_noteFor 63 = .ok (.ior, 1) := by decide +kernel
theorem dX0_noteFor_64 : decode cX0_noteFor 64 = .ok (.istore_n 2, 1) := by decide +kernel
theorem dX0_noteFor_65 : decode cX0_noteFor 65 = .ok (.iinc 3 1, 3) := by decide +kernel
theorem dX0_noteFor_68 : decode cX0_noteFor 68 = .ok (.goto (-48), 3) := by decide +kernel
theorem dX0_noteFor_71 : decode cX0_noteFor 71 = .ok (.aload_n 0, 1) := by decide +kernel
theorem dX0_noteFor_72 : decode cX0_noteFor 72 = .ok (.getfield 61, 3) := by decide +kernel
theorem dX0_noteFor_75 : decode cX0_noteFor 75 = .ok (.aload_n 0, 1) := by decide +kernel
theorem dX0_noteFor_76 : decode cX0_noteFor 76 = .ok (.getfield 34, 3) := by decide +kernel
theorem dX0_noteFor_79 : decode cX0_noteFor 79 = .ok (.if_icmp .le 8, 3) := by decide +kernel
theorem dX0_noteFor_82 : decode cX0_noteFor 82 = .ok (.iload_n 2, 1) := by decide +kernel
theorem dX0_noteFor_83 : decode cX0_noteFor 83 = .ok (.ldc 116, 2) := by decide +kernel
theorem dX0_noteFor_85 : decode cX0_noteFor 85 = .ok (.ior, 1) := by decide +kernel
theorem dX0_noteFor_86 : decode cX0_noteFor 86 = .ok (.istore_n 2, 1) := by decide +kernel
theorem dX0_noteFor_87 : decode cX0_noteFor 87 = .ok (.iload_n 2, 1) := by decide +kernel
theorem dX0_noteFor_88 : decode cX0_noteFor 88 = .ok (.ireturn, 1) := by decide +kernel
set_option maxRecDepth 20000 in
theorem ggX0_makeUnits_X0_works : GoodIn wsX0_makeUnits wsX0_works := goodIn_r _ [9] (by decide +kernel) (by decide +kernel)
set_option maxRecDepth 20000 in
theorem gX0_makeUnits_X0_works : GoodIn wsX0_makeUnits (va_wsS RX0 117 yX0_works wsX0_works) := goodIn_app (goodIn_of _ (by decide +kernel)) ggX0_makeUnits_X0_works
set_option maxRecDepth 20000 in
theorem ggX0_makeUnits_X0_unitsOf : GoodIn wsX0_makeUnits wsX0_unitsOf := goodIn_r _ [12] (by decide +kernel) (by decide +kernel)
set_option maxRecDepth 20000 in
theorem gX0_makeUnits_X0_unitsOf : GoodIn wsX0_makeUnits (va_wsS RX0 121 yX0_unitsOf wsX0_unitsOf) := goodIn_app (goodIn_of _ (by decide +kernel)) ggX0_makeUnits_X0_unitsOf
set_option maxRecDepth 20000 in
theorem ggX0_makeUnits_X0_wearAfter : GoodIn wsX0_makeUnits wsX0_wearAfter := goodIn_r _ [15, 16, 17, 18, 19] (by decide +kernel) (by decide +kernel)
set_option maxRecDepth 20000 in
theorem gX0_makeUnits_X0_wearAfter : GoodIn wsX0_makeUnits (va_wsS RX0 125 yX0_wearAfter wsX0_wearAfter) := goodIn_app (goodIn_of _ (by decide +kernel)) ggX0_makeUnits_X0_wearAfter
theorem dX0_makeUnits_0 : decode cX0_makeUnits 0 = .ok (.iconst 0, 1) := by decide +kernel
theorem dX0_makeUnits_1 : decode cX0_makeUnits 1 = .ok (.istore_n 3, 1) := by decide +kernel
theorem dX0_makeUnits_2 : decode cX0_makeUnits 2 = .ok (.iconst 0, 1) := by decide +kernel
theorem dX0_makeUnits_3 : decode cX0_makeUnits 3 = .ok (.istore 4, 2) := by decide +kernel
theorem dX0_makeUnits_5 : decode cX0_makeUnits 5 = .ok (.iload 4, 2) := by decide +kernel
theorem dX0_makeUnits_7 : decode cX0_makeUnits 7 = .ok (.aload_n 0, 1) := by decide +kernel
theorem dX0_makeUnits_8 : decode cX0_makeUnits 8 = .ok (.getfield 48, 3) := by decide +kernel
theorem dX0_makeUnits_11 : decode cX0_makeUnits 11 = .ok (.if_icmp .ge 73, 3) := by decide +kernel
theorem dX0_makeUnits_14 : decode cX0_makeUnits 14 = .ok (.aload_n 0, 1) := by decide +kernel
theorem dX0_makeUnits_15 : decode cX0_makeUnits 15 = .ok (.getfield 16, 3) := by decide +kernel
theorem dX0_makeUnits_18 : decode cX0_makeUnits 18 = .ok (.iload 4, 2) := by decide +kernel
theorem dX0_makeUnits_20 : decode cX0_makeUnits 20 = .ok (.iaload, 1) := by decide +kernel
theorem dX0_makeUnits_21 : decode cX0_makeUnits 21 = .ok (.istore 5, 2) := by decide +kernel
theorem dX0_makeUnits_23 : decode cX0_makeUnits 23 = .ok (.aload_n 0, 1) := by decide +kernel
theorem dX0_makeUnits_24 : decode cX0_makeUnits 24 = .ok (.getfield 19, 3) := by decide +kernel
theorem dX0_makeUnits_27 : decode cX0_makeUnits 27 = .ok (.iload 4, 2) := by decide +kernel
theorem dX0_makeUnits_29 : decode cX0_makeUnits 29 = .ok (.iaload, 1) := by decide +kernel
theorem dX0_makeUnits_30 : decode cX0_makeUnits 30 = .ok (.istore 6, 2) := by decide +kernel
theorem dX0_makeUnits_32 : decode cX0_makeUnits 32 = .ok (.iload_n 1, 1) := by decide +kernel
theorem dX0_makeUnits_33 : decode cX0_makeUnits 33 = .ok (.iload 6, 2) := by decide +kernel
theorem dX0_makeUnits_35 : decode cX0_makeUnits 35 = .ok (.aload_n 0, 1) := by decide +kernel
theorem dX0_makeUnits_36 : decode cX0_makeUnits 36 = .ok (.getfield 22, 3) := by decide +kernel
theorem dX0_makeUnits_39 : decode cX0_makeUnits 39 = .ok (.iload 4, 2) := by decide +kernel
theorem dX0_makeUnits_41 : decode cX0_makeUnits 41 = .ok (.iaload, 1) := by decide +kernel
theorem dX0_makeUnits_42 : decode cX0_makeUnits 42 = .ok (.aload_n 0, 1) := by decide +kernel
theorem dX0_makeUnits_43 : decode cX0_makeUnits 43 = .ok (.getfield 93, 3) := by decide +kernel
theorem dX0_makeUnits_46 : decode cX0_makeUnits 46 = .ok (.invokestatic 117, 3) := by decide +kernel
theorem dX0_makeUnits_49 : decode cX0_makeUnits 49 = .ok (.ifCond .eq 29, 3) := by decide +kernel
theorem dX0_makeUnits_52 : decode cX0_makeUnits 52 = .ok (.iload_n 3, 1) := by decide +kernel
theorem dX0_makeUnits_53 : decode cX0_makeUnits 53 = .ok (.iload_n 2, 1) := by decide +kernel
theorem dX0_makeUnits_54 : decode cX0_makeUnits 54 = .ok (.iload 5, 2) := by decide +kernel
theorem dX0_makeUnits_56 : decode cX0_makeUnits 56 = .ok (.iload 6, 2) := by decide +kernel
theorem dX0_makeUnits_58 : decode cX0_makeUnits 58 = .ok (.invokestatic 121, 3) := by decide +kernel
theorem dX0_makeUnits_61 : decode cX0_makeUnits 61 = .ok (.iadd, 1) := by decide +kernel
theorem dX0_makeUnits_62 : decode cX0_makeUnits 62 = .ok (.istore_n 3, 1) := by decide +kernel
theorem dX0_makeUnits_63 : decode cX0_makeUnits 63 = .ok (.aload_n 0, 1) := by decide +kernel
theorem dX0_makeUnits_64 : decode cX0_makeUnits 64 = .ok (.getfield 19, 3) := by decide +kernel
theorem dX0_makeUnits_67 : decode cX0_makeUnits 67 = .ok (.iload 4, 2) := by decide +kernel
theorem dX0_makeUnits_69 : decode cX0_makeUnits 69 = .ok (.iload_n 2, 1) := by decide +kernel
theorem dX0_makeUnits_70 : decode cX0_makeUnits 70 = .ok (.iload 5, 2) := by decide +kernel
theorem dX0_makeUnits_72 : decode cX0_makeUnits 72 = .ok (.iload 6, 2) := by decide +kernel
theorem dX0_makeUnits_74 : decode cX0_makeUnits 74 = .ok (.invokestatic 125, 3) := by decide +kernel
theorem dX0_makeUnits_77 : decode cX0_makeUnits 77 = .ok (.iastore, 1) := by decide +kernel
theorem dX0_makeUnits_78 : decode cX0_makeUnits 78 = .ok (.iinc 4 1, 3) := by decide +kernel
theorem dX0_makeUnits_81 : decode cX0_makeUnits 81 = .ok (.goto (-76), 3) := by decide +kernel
theorem dX0_makeUnits_84 : decode cX0_makeUnits 84 = .ok (.iload_n 3, 1) := by decide +kernel
theorem dX0_makeUnits_85 : decode cX0_makeUnits 85 = .ok (.ireturn, 1) := by decide +kernel
set_option maxRecDepth 20000 in
theorem ggX0_settle_X0_worth : GoodIn wsX0_settle wsX0_worth := goodIn_r _ [9] (by decide +kernel) (by decide +kernel)
set_option maxRecDepth 20000 in
theorem gX0_settle_X0_worth : GoodIn wsX0_settle (va_wsS RX0 70 yX0_worth wsX0_worth) := goodIn_app (goodIn_of _ (by decide +kernel)) ggX0_settle_X0_worth
theorem dX0_settle_0 : decode cX0_settle 0 = .ok (.aload_n 0, 1) := by decide +kernel
theorem dX0_settle_1 : decode cX0_settle 1 = .ok (.getfield 13, 3) := by decide +kernel
theorem dX0_settle_4 : decode cX0_settle 4 = .ok (.iload_n 1, 1) := by decide +kernel
theorem dX0_settle_5 : decode cX0_settle 5 = .ok (.bipush 24, 2) := by decide +kernel
theorem dX0_settle_7 : decode cX0_settle 7 = .ok (.irem, 1) := by decide +kernel
theorem dX0_settle_8 : decode cX0_settle 8 = .ok (.iaload, 1) := by decide +kernel
theorem dX0_settle_9 : decode cX0_settle 9 = .ok (.istore_n 2, 1) := by decide +kernel
theorem dX0_settle_10 : decode cX0_settle 10 = .ok (.aload_n 0, 1) := by decide +kernel
theorem dX0_settle_11 : decode cX0_settle 11 = .ok (.getfield 28, 3) := by decide +kernel
theorem dX0_settle_14 : decode cX0_settle 14 = .ok (.iload_n 1, 1) := by decide +kernel
theorem dX0_settle_15 : decode cX0_settle 15 = .ok (.iaload, 1) := by decide +kernel
theorem dX0_settle_16 : decode cX0_settle 16 = .ok (.aload_n 0, 1) := by decide +kernel
theorem dX0_settle_17 : decode cX0_settle 17 = .ok (.getfield 31, 3) := by decide +kernel
theorem dX0_settle_20 : decode cX0_settle 20 = .ok (.iload_n 1, 1) := by decide +kernel
theorem dX0_settle_21 : decode cX0_settle 21 = .ok (.iaload, 1) := by decide +kernel
theorem dX0_settle_22 : decode cX0_settle 22 = .ok (.isub, 1) := by decide +kernel
theorem dX0_settle_23 : decode cX0_settle 23 = .ok (.istore_n 3, 1) := by decide +kernel
theorem dX0_settle_24 : decode cX0_settle 24 = .ok (.iload_n 3, 1) := by decide +kernel
theorem dX0_settle_25 : decode cX0_settle 25 = .ok (.ifCond .ge 21, 3) := by decide +kernel
theorem dX0_settle_28 : decode cX0_settle 28 = .ok (.aload_n 0, 1) := by decide +kernel
theorem dX0_settle_29 : decode cX0_settle 29 = .ok (.aload_n 0, 1) := by decide +kernel
theorem dX0_settle_30 : decode cX0_settle 30 = .ok (.getfield 66, 3) := by decide +kernel
theorem dX0_settle_33 : decode cX0_settle 33 = .ok (.iload_n 3, 1) := by decide +kernel
theorem dX0_settle_34 : decode cX0_settle 34 = .ok (.ineg, 1) := by decide +kernel
theorem dX0_settle_35 : decode cX0_settle 35 = .ok (.iload_n 2, 1) := by decide +kernel
theorem dX0_settle_36 : decode cX0_settle 36 = .ok (.invokestatic 70, 3) := by decide +kernel
theorem dX0_settle_39 : decode cX0_settle 39 = .ok (.fsub, 1) := by decide +kernel
theorem dX0_settle_40 : decode cX0_settle 40 = .ok (.putfield 66, 3) := by decide +kernel
theorem dX0_settle_43 : decode cX0_settle 43 = .ok (.goto 24, 3) := by decide +kernel
theorem dX0_settle_46 : decode cX0_settle 46 = .ok (.iload_n 3, 1) := by decide +kernel
theorem dX0_settle_47 : decode cX0_settle 47 = .ok (.ifCond .le 20, 3) := by decide +kernel
theorem dX0_settle_50 : decode cX0_settle 50 = .ok (.aload_n 0, 1) := by decide +kernel
theorem dX0_settle_51 : decode cX0_settle 51 = .ok (.aload_n 0, 1) := by decide +kernel
theorem dX0_settle_52 : decode cX0_settle 52 = .ok (.getfield 66, 3) := by decide +kernel
theorem dX0_settle_55 : decode cX0_settle 55 = .ok (.iload_n 3, 1) := by decide +kernel
theorem dX0_settle_56 : decode cX0_settle 56 = .ok (.iload_n 2, 1) := by decide +kernel
theorem dX0_settle_57 : decode cX0_settle 57 = .ok (.invokestatic 70, 3) := by decide +kernel
theorem dX0_settle_60 : decode cX0_settle 60 = .ok (.ldc 128, 2) := by decide +kernel
theorem dX0_settle_62 : decode cX0_settle 62 = .ok (.fmul, 1) := by decide +kernel
theorem dX0_settle_63 : decode cX0_settle 63 = .ok (.fadd, 1) := by decide +kernel
theorem dX0_settle_64 : decode cX0_settle 64 = .ok (.putfield 66, 3) := by decide +kernel
theorem dX0_settle_67 : decode cX0_settle 67 = .ok (.return_, 1) := by decide +kernel
theorem dX0_worth_0 : decode cX0_worth 0 = .ok (.iload_n 0, 1) := by decide +kernel
theorem dX0_worth_1 : decode cX0_worth 1 = .ok (.i2f, 1) := by decide +kernel
theorem dX0_worth_2 : decode cX0_worth 2 = .ok (.iload_n 1, 1) := by decide +kernel
theorem dX0_worth_3 : decode cX0_worth 3 = .ok (.i2f, 1) := by decide +kernel
theorem dX0_worth_4 : decode cX0_worth 4 = .ok (.fmul, 1) := by decide +kernel
theorem dX0_worth_5 : decode cX0_worth 5 = .ok (.freturn, 1) := by decide +kernel
theorem dX0_works_0 : decode cX0_works 0 = .ok (.iload_n 1, 1) := by decide +kernel
theorem dX0_works_1 : decode cX0_works 1 = .ok (.sipush 1000, 3) := by decide +kernel
theorem dX0_works_4 : decode cX0_works 4 = .ok (.if_icmp .ge 17, 3) := by decide +kernel
theorem dX0_works_7 : decode cX0_works 7 = .ok (.iload_n 0, 1) := by decide +kernel
theorem dX0_works_8 : decode cX0_works 8 = .ok (.iload_n 2, 1) := by decide +kernel
theorem dX0_works_9 : decode cX0_works 9 = .ok (.if_icmp .lt 12, 3) := by decide +kernel
theorem dX0_works_12 : decode cX0_works 12 = .ok (.iload_n 0, 1) := by decide +kernel
theorem dX0_works_13 : decode cX0_works 13 = .ok (.iload_n 3, 1) := by decide +kernel
theorem dX0_works_14 : decode cX0_works 14 = .ok (.if_icmp .lt 7, 3) := by decide +kernel
theorem dX0_works_17 : decode cX0_works 17 = .ok (.iconst 1, 1) := by decide +kernel
theorem dX0_works_18 : decode cX0_works 18 = .ok (.goto 4, 3) := by decide +kernel
theorem dX0_works_21 : decode cX0_works 21 = .ok (.iconst 0, 1) := by decide +kernel
theorem dX0_works_22 : decode cX0_works 22 = .ok (.ireturn, 1) := by decide +kernel
theorem dX0_unitsOf_0 : decode cX0_unitsOf 0 = .ok (.iload_n 0, 1) := by decide +kernel
theorem dX0_unitsOf_1 : decode cX0_unitsOf 1 = .ok (.iload_n 1, 1) := by decide +kernel
theorem dX0_unitsOf_2 : decode cX0_unitsOf 2 = .ok (.imul, 1) := by decide +kernel
theorem dX0_unitsOf_3 : decode cX0_unitsOf 3 = .ok (.sipush 1000, 3) := by decide +kernel
theorem dX0_unitsOf_6 : decode cX0_unitsOf 6 = .ok (.iload_n 2, 1) := by decide +kernel
theorem dX0_unitsOf_7 : decode cX0_unitsOf 7 = .ok (.isub, 1) := by decide +kernel
theorem dX0_unitsOf_8 : decode cX0_unitsOf 8 = .ok (.imul, 1) := by decide +kernel
theorem dX0_unitsOf_9 : decode cX0_unitsOf 9 = .ok (.sipush 8000, 3) := by decide +kernel
theorem dX0_unitsOf_12 : decode cX0_unitsOf 12 = .ok (.idiv, 1) := by decide +kernel
theorem dX0_unitsOf_13 : decode cX0_unitsOf 13 = .ok (.ireturn, 1) := by decide +kernel
theorem dX0_wearAfter_0 : decode cX0_wearAfter 0 = .ok (.iload_n 1, 1) := by decide +kernel
theorem dX0_wearAfter_1 : decode cX0_wearAfter 1 = .ok (.ifCond .ne 5, 3) := by decide +kernel
theorem dX0_wearAfter_4 : decode cX0_wearAfter 4 = .ok (.iload_n 2, 1) := by decide +kernel
theorem dX0_wearAfter_5 : decode cX0_wearAfter 5 = .ok (.ireturn, 1) := by decide +kernel
theorem dX0_wearAfter_6 : decode cX0_wearAfter 6 = .ok (.iload_n 0, 1) := by decide +kernel
theorem dX0_wearAfter_7 : decode cX0_wearAfter 7 = .ok (.bipush 60, 2) := by decide +kernel
theorem dX0_wearAfter_9 : decode cX0_wearAfter 9 = .ok (.if_icmp .le 9, 3) := by decide +kernel
theorem dX0_wearAfter_12 : decode cX0_wearAfter 12 = .ok (.iload_n 1, 1) := by decide +kernel
theorem dX0_wearAfter_13 : decode cX0_wearAfter 13 = .ok (.iconst 2, 1) := by decide +kernel
theorem dX0_wearAfter_14 : decode cX0_wearAfter 14 = .ok (.iadd, 1) := by decide +kernel
theorem dX0_wearAfter_15 : decode cX0_wearAfter 15 = .ok (.goto 4, 3) := by decide +kernel
theorem dX0_wearAfter_18 : decode cX0_wearAfter 18 = .ok (.iload_n 1, 1) := by decide +kernel
theorem dX0_wearAfter_19 : decode cX0_wearAfter 19 = .ok (.istore_n 3, 1) := by decide +kernel
theorem dX0_wearAfter_20 : decode cX0_wearAfter 20 = .ok (.sipush 1000, 3) := by decide +kernel
theorem dX0_wearAfter_23 : decode cX0_wearAfter 23 = .ok (.iload_n 2, 1) := by decide +kernel
theorem dX0_wearAfter_24 : decode cX0_wearAfter 24 = .ok (.iload_n 3, 1) := by decide +kernel
theorem dX0_wearAfter_25 : decode cX0_wearAfter 25 = .ok (.iadd, 1) := by decide +kernel
theorem dX0_wearAfter_26 : decode cX0_wearAfter 26 = .ok (.invokestatic 129, 3) := by decide +kernel
theorem dX0_wearAfter_29 : decode cX0_wearAfter 29 = .ok (.ireturn, 1) := by decide +kernel
set_option maxRecDepth 20000 in
theorem ggX0_unitsFromNotes_X0_notedRepair : GoodIn wsX0_unitsFromNotes wsX0_notedRepair := goodIn_r _ [5] (by decide +kernel) (by decide +kernel)
set_option maxRecDepth 20000 in
theorem gX0_unitsFromNotes_X0_notedRepair : GoodIn wsX0_unitsFromNotes (va_wsS RX0 132 yX0_notedRepair wsX0_notedRepair) := goodIn_app (goodIn_of _ (by decide +kernel)) ggX0_unitsFromNotes_X0_notedRepair
set_option maxRecDepth 20000 in
theorem ggX0_unitsFromNotes_X0_notedRun : GoodIn wsX0_unitsFromNotes wsX0_notedRun := goodIn_r _ [8] (by decide +kernel) (by decide +kernel)
set_option maxRecDepth 20000 in
theorem gX0_unitsFromNotes_X0_notedRun : GoodIn wsX0_unitsFromNotes (va_wsS RX0 103 yX0_notedRun wsX0_notedRun) := goodIn_app (goodIn_of _ (by decide +kernel)) ggX0_unitsFromNotes_X0_notedRun
set_option maxRecDepth 20000 in
theorem ggX0_unitsFromNotes_X0_works : GoodIn wsX0_unitsFromNotes wsX0_works := goodIn_r _ [11] (by decide +kernel) (by decide +kernel)
set_option maxRecDepth 20000 in
theorem gX0_unitsFromNotes_X0_works : GoodIn wsX0_unitsFromNotes (va_wsS RX0 117 yX0_works wsX0_works) := goodIn_app (goodIn_of _ (by decide +kernel)) ggX0_unitsFromNotes_X0_works
set_option maxRecDepth 20000 in
theorem ggX0_unitsFromNotes_X0_notedHead : GoodIn wsX0_unitsFromNotes wsX0_notedHead := goodIn_r _ [14] (by decide +kernel) (by decide +kernel)
set_option maxRecDepth 20000 in
theorem gX0_unitsFromNotes_X0_notedHead : GoodIn wsX0_unitsFromNotes (va_wsS RX0 89 yX0_notedHead wsX0_notedHead) := goodIn_app (goodIn_of _ (by decide +kernel)) ggX0_unitsFromNotes_X0_notedHead
set_option maxRecDepth 20000 in
theorem ggX0_unitsFromNotes_X0_notedGate : GoodIn wsX0_unitsFromNotes wsX0_notedGate := goodIn_r _ [17] (by decide +kernel) (by decide +kernel)
set_option maxRecDepth 20000 in
theorem gX0_unitsFromNotes_X0_notedGate : GoodIn wsX0_unitsFromNotes (va_wsS RX0 136 yX0_notedGate wsX0_notedGate) := goodIn_app (goodIn_of _ (by decide +kernel)) ggX0_unitsFromNotes_X0_notedGate
set_option maxRecDepth 20000 in
theorem ggX0_unitsFromNotes_X0_unitsOf : GoodIn wsX0_unitsFromNotes wsX0_unitsOf := goodIn_r _ [20] (by decide +kernel) (by decide +kernel)
set_option maxRecDepth 20000 in
theorem gX0_unitsFromNotes_X0_unitsOf : GoodIn wsX0_unitsFromNotes (va_wsS RX0 121 yX0_unitsOf wsX0_unitsOf) := goodIn_app (goodIn_of _ (by decide +kernel)) ggX0_unitsFromNotes_X0_unitsOf
set_option maxRecDepth 20000 in
theorem ggX0_unitsFromNotes_X0_wearAfter : GoodIn wsX0_unitsFromNotes wsX0_wearAfter := goodIn_r _ [23, 24, 25, 26, 27] (by decide +kernel) (by decide +kernel)
set_option maxRecDepth 20000 in
theorem gX0_unitsFromNotes_X0_wearAfter : GoodIn wsX0_unitsFromNotes (va_wsS RX0 125 yX0_wearAfter wsX0_wearAfter) := goodIn_app (goodIn_of _ (by decide +kernel)) ggX0_unitsFromNotes_X0_wearAfter
theorem dX0_unitsFromNotes_0 : decode cX0_unitsFromNotes 0 = .ok (.iconst 0, 1) := by decide +kernel
theorem dX0_unitsFromNotes_1 : decode cX0_unitsFromNotes 1 = .ok (.istore_n 3, 1) := by decide +kernel
theorem dX0_unitsFromNotes_2 : decode cX0_unitsFromNotes 2 = .ok (.iconst 0, 1) := by decide +kernel
theorem dX0_unitsFromNotes_3 : decode cX0_unitsFromNotes 3 = .ok (.istore 4, 2) := by decide +kernel
theorem dX0_unitsFromNotes_5 : decode cX0_unitsFromNotes 5 = .ok (.iconst 0, 1) := by decide +kernel
theorem dX0_unitsFromNotes_6 : decode cX0_unitsFromNotes 6 = .ok (.istore 5, 2) := by decide +kernel
theorem dX0_unitsFromNotes_8 : decode cX0_unitsFromNotes 8 = .ok (.iconst 0, 1) := by decide +kernel
theorem dX0_unitsFromNotes_9 : decode cX0_unitsFromNotes 9 = .ok (.istore 6, 2) := by decide +kernel
theorem dX0_unitsFromNotes_11 : decode cX0_unitsFromNotes 11 = .ok (.iconst 0, 1) := by decide +kernel
theorem dX0_unitsFromNotes_12 : decode cX0_unitsFromNotes 12 = .ok (.istore 7, 2) := by decide +kernel
theorem dX0_unitsFromNotes_14 : decode cX0_unitsFromNotes 14 = .ok (.iload 7, 2) := by decide +kernel
theorem dX0_unitsFromNotes_16 : decode cX0_unitsFromNotes 16 = .ok (.iload_n 2, 1) := by decide +kernel
theorem dX0_unitsFromNotes_17 : decode cX0_unitsFromNotes 17 = .ok (.if_icmp .gt 101, 3) := by decide +kernel
theorem dX0_unitsFromNotes_20 : decode cX0_unitsFromNotes 20 = .ok (.aload_n 0, 1) := by decide +kernel
theorem dX0_unitsFromNotes_21 : decode cX0_unitsFromNotes 21 = .ok (.getfield 25, 3) := by decide +kernel
theorem dX0_unitsFromNotes_24 : decode cX0_unitsFromNotes 24 = .ok (.iload 7, 2) := by decide +kernel
theorem dX0_unitsFromNotes_26 : decode cX0_unitsFromNotes 26 = .ok (.iaload, 1) := by decide +kernel
theorem dX0_unitsFromNotes_27 : decode cX0_unitsFromNotes 27 = .ok (.istore 8, 2) := by decide +kernel
theorem dX0_unitsFromNotes_29 : decode cX0_unitsFromNotes 29 = .ok (.iload 8, 2) := by decide +kernel
theorem dX0_unitsFromNotes_31 : decode cX0_unitsFromNotes 31 = .ok (.iload_n 1, 1) := by decide +kernel
theorem dX0_unitsFromNotes_32 : decode cX0_unitsFromNotes 32 = .ok (.invokestatic 132, 3) := by decide +kernel
theorem dX0_unitsFromNotes_35 : decode cX0_unitsFromNotes 35 = .ok (.ifCond .eq 12, 3) := by decide +kernel
theorem dX0_unitsFromNotes_38 : decode cX0_unitsFromNotes 38 = .ok (.iconst 0, 1) := by decide +kernel
theorem dX0_unitsFromNotes_39 : decode cX0_unitsFromNotes 39 = .ok (.istore 4, 2) := by decide +kernel
theorem dX0_unitsFromNotes_41 : decode cX0_unitsFromNotes 41 = .ok (.iload 7, 2) := by decide +kernel
theorem dX0_unitsFromNotes_43 : decode cX0_unitsFromNotes 43 = .ok (.iconst 5, 1) := by decide +kernel
theorem dX0_unitsFromNotes_44 : decode cX0_unitsFromNotes 44 = .ok (.iadd, 1) := by decide +kernel
theorem dX0_unitsFromNotes_45 : decode cX0_unitsFromNotes 45 = .ok (.istore 5, 2) := by decide +kernel
theorem dX0_unitsFromNotes_47 : decode cX0_unitsFromNotes 47 = .ok (.iload 8, 2) := by decide +kernel
theorem dX0_unitsFromNotes_49 : decode cX0_unitsFromNotes 49 = .ok (.invokestatic 103, 3) := by decide +kernel
theorem dX0_unitsFromNotes_52 : decode cX0_unitsFromNotes 52 = .ok (.ifCond .eq 9, 3) := by decide +kernel
theorem dX0_unitsFromNotes_55 : decode cX0_unitsFromNotes 55 = .ok (.iload 7, 2) := by decide +kernel
theorem dX0_unitsFromNotes_57 : decode cX0_unitsFromNotes 57 = .ok (.iconst 3, 1) := by decide +kernel
theorem dX0_unitsFromNotes_58 : decode cX0_unitsFromNotes 58 = .ok (.iadd, 1) := by decide +kernel
theorem dX0_unitsFromNotes_59 : decode cX0_unitsFromNotes 59 = .ok (.istore 6, 2) := by decide +kernel
theorem dX0_unitsFromNotes_61 : decode cX0_unitsFromNotes 61 = .ok (.iconst 0, 1) := by decide +kernel
theorem dX0_unitsFromNotes_62 : decode cX0_unitsFromNotes 62 = .ok (.istore_n 3, 1) := by decide +kernel
theorem dX0_unitsFromNotes_63 : decode cX0_unitsFromNotes 63 = .ok (.iload 7, 2) := by decide +kernel
theorem dX0_unitsFromNotes_65 : decode cX0_unitsFromNotes 65 = .ok (.iload 4, 2) := by decide +kernel
theorem dX0_unitsFromNotes_67 : decode cX0_unitsFromNotes 67 = .ok (.iload 5, 2) := by decide +kernel
theorem dX0_unitsFromNotes_69 : decode cX0_unitsFromNotes 69 = .ok (.iload 6, 2) := by decide +kernel
theorem dX0_unitsFromNotes_71 : decode cX0_unitsFromNotes 71 = .ok (.invokestatic 117, 3) := by decide +kernel
theorem dX0_unitsFromNotes_74 : decode cX0_unitsFromNotes 74 = .ok (.ifCond .eq 38, 3) := by decide +kernel
theorem dX0_unitsFromNotes_77 : decode cX0_unitsFromNotes 77 = .ok (.iload 8, 2) := by decide +kernel
theorem dX0_unitsFromNotes_79 : decode cX0_unitsFromNotes 79 = .ok (.invokestatic 89, 3) := by decide +kernel
theorem dX0_unitsFromNotes_82 : decode cX0_unitsFromNotes 82 = .ok (.iload 8, 2) := by decide +kernel
theorem dX0_unitsFromNotes_84 : decode cX0_unitsFromNotes 84 = .ok (.iload_n 1, 1) := by decide +kernel
theorem dX0_unitsFromNotes_85 : decode cX0_unitsFromNotes 85 = .ok (.invokestatic 136, 3) := by decide +kernel
theorem dX0_unitsFromNotes_88 : decode cX0_unitsFromNotes 88 = .ok (.iload 4, 2) := by decide +kernel
theorem dX0_unitsFromNotes_90 : decode cX0_unitsFromNotes 90 = .ok (.invokestatic 121, 3) := by decide +kernel
theorem dX0_unitsFromNotes_93 : decode cX0_unitsFromNotes 93 = .ok (.istore_n 3, 1) := by decide +kernel
theorem dX0_unitsFromNotes_94 : decode cX0_unitsFromNotes 94 = .ok (.iload 8, 2) := by decide +kernel
theorem dX0_unitsFromNotes_96 : decode cX0_unitsFromNotes 96 = .ok (.invokestatic 89, 3) := by decide +kernel
theorem dX0_unitsFromNotes_99 : decode cX0_unitsFromNotes 99 = .ok (.iload 8, 2) := by decide +kernel
theorem dX0_unitsFromNotes_101 : decode cX0_unitsFromNotes 101 = .ok (.iload_n 1, 1) := by decide +kernel
theorem dX0_unitsFromNotes_102 : decode cX0_unitsFromNotes 102 = .ok (.invokestatic 136, 3) := by decide +kernel
theorem dX0_unitsFromNotes_105 : decode cX0_unitsFromNotes 105 = .ok (.iload 4, 2) := by decide +kernel
theorem dX0_unitsFromNotes_107 : decode cX0_unitsFromNotes 107 = .ok (.invokestatic 125, 3) := by decide +kernel
theorem dX0_unitsFromNotes_110 : decode cX0_unitsFromNotes 110 = .ok (.istore 4, 2) := by decide +kernel
theorem dX0_unitsFromNotes_112 : decode cX0_unitsFromNotes 112 = .ok (.iinc 7 1, 3) := by decide +kernel
theorem dX0_unitsFromNotes_115 : decode cX0_unitsFromNotes 115 = .ok (.goto (-101), 3) := by decide +kernel
theorem dX0_unitsFromNotes_118 : decode cX0_unitsFromNotes 118 = .ok (.iload_n 3, 1) := by decide +kernel
theorem dX0_unitsFromNotes_119 : decode cX0_unitsFromNotes 119 = .ok (.ireturn, 1) := by decide +kernel
theorem dX0_notedHead_0 : decode cX0_notedHead 0 = .ok (.iload_n 0, 1) := by decide +kernel
theorem dX0_notedHead_1 : decode cX0_notedHead 1 = .ok (.bipush 127, 2) := by decide +kernel
theorem dX0_notedHead_3 : decode cX0_notedHead 3 = .ok (.iand, 1) := by decide +kernel
theorem dX0_notedHead_4 : decode cX0_notedHead 4 = .ok (.ireturn, 1) := by decide +kernel
theorem dX0_notedGate_0 : decode cX0_notedGate 0 = .ok (.iload_n 0, 1) := by decide +kernel
theorem dX0_notedGate_1 : decode cX0_notedGate 1 = .ok (.bipush 7, 2) := by decide +kernel
theorem dX0_notedGate_3 : decode cX0_notedGate 3 = .ok (.iconst 3, 1) := by decide +kernel
theorem dX0_notedGate_4 : decode cX0_notedGate 4 = .ok (.iload_n 1, 1) := by decide +kernel
theorem dX0_notedGate_5 : decode cX0_notedGate 5 = .ok (.imul, 1) := by decide +kernel
theorem dX0_notedGate_6 : decode cX0_notedGate 6 = .ok (.iadd, 1) := by decide +kernel
theorem dX0_notedGate_7 : decode cX0_notedGate 7 = .ok (.ishr, 1) := by decide +kernel
theorem dX0_notedGate_8 : decode cX0_notedGate 8 = .ok (.bipush 7, 2) := by decide +kernel
theorem dX0_notedGate_10 : decode cX0_notedGate 10 = .ok (.iand, 1) := by decide +kernel
theorem dX0_notedGate_11 : decode cX0_notedGate 11 = .ok (.ireturn, 1) := by decide +kernel
theorem dX0_notedRepair_0 : decode cX0_notedRepair 0 = .ok (.iload_n 0, 1) := by decide +kernel
theorem dX0_notedRepair_1 : decode cX0_notedRepair 1 = .ok (.bipush 19, 2) := by decide +kernel
theorem dX0_notedRepair_3 : decode cX0_notedRepair 3 = .ok (.iload_n 1, 1) := by decide +kernel
theorem dX0_notedRepair_4 : decode cX0_notedRepair 4 = .ok (.iadd, 1) := by decide +kernel
theorem dX0_notedRepair_5 : decode cX0_notedRepair 5 = .ok (.ishr, 1) := by decide +kernel
theorem dX0_notedRepair_6 : decode cX0_notedRepair 6 = .ok (.iconst 1, 1) := by decide +kernel
theorem dX0_notedRepair_7 : decode cX0_notedRepair 7 = .ok (.iand, 1) := by decide +kernel
theorem dX0_notedRepair_8 : decode cX0_notedRepair 8 = .ok (.ifCond .eq 7, 3) := by decide +kernel
theorem dX0_notedRepair_11 : decode cX0_notedRepair 11 = .ok (.iconst 1, 1) := by decide +kernel
theorem dX0_notedRepair_12 : decode cX0_notedRepair 12 = .ok (.goto 4, 3) := by decide +kernel
theorem dX0_notedRepair_15 : decode cX0_notedRepair 15 = .ok (.iconst 0, 1) := by decide +kernel
theorem dX0_notedRepair_16 : decode cX0_notedRepair 16 = .ok (.ireturn, 1) := by decide +kernel
theorem dX0_notedRun_0 : decode cX0_notedRun 0 = .ok (.iload_n 0, 1) := by decide +kernel
theorem dX0_notedRun_1 : decode cX0_notedRun 1 = .ok (.bipush 23, 2) := by decide +kernel
theorem dX0_notedRun_3 : decode cX0_notedRun 3 = .ok (.ishr, 1) := by decide +kernel
theorem dX0_notedRun_4 : decode cX0_notedRun 4 = .ok (.iconst 1, 1) := by decide +kernel
theorem dX0_notedRun_5 : decode cX0_notedRun 5 = .ok (.iand, 1) := by decide +kernel
theorem dX0_notedRun_6 : decode cX0_notedRun 6 = .ok (.ifCond .eq 7, 3) := by decide +kernel
theorem dX0_notedRun_9 : decode cX0_notedRun 9 = .ok (.iconst 1, 1) := by decide +kernel
theorem dX0_notedRun_10 : decode cX0_notedRun 10 = .ok (.goto 4, 3) := by decide +kernel
theorem dX0_notedRun_13 : decode cX0_notedRun 13 = .ok (.iconst 0, 1) := by decide +kernel
theorem dX0_notedRun_14 : decode cX0_notedRun 14 = .ok (.ireturn, 1) := by decide +kernel
theorem dX0_requireIndex_0 : decode cX0_requireIndex 0 = .ok (.iload_n 0, 1) := by decide +kernel
theorem dX0_requireIndex_1 : decode cX0_requireIndex 1 = .ok (.iload_n 1, 1) := by decide +kernel
theorem dX0_requireIndex_2 : decode cX0_requireIndex 2 = .ok (.if_icmp .lt 8, 3) := by decide +kernel
theorem dX0_requireIndex_5 : decode cX0_requireIndex 5 = .ok (.iload_n 0, 1) := by decide +kernel
theorem dX0_requireIndex_6 : decode cX0_requireIndex 6 = .ok (.iload_n 2, 1) := by decide +kernel
theorem dX0_requireIndex_7 : decode cX0_requireIndex 7 = .ok (.if_icmp .le 13, 3) := by decide +kernel
theorem dX0_requireIndex_10 : decode cX0_requireIndex 10 = .ok (.new 139, 3) := by decide +kernel
theorem dX0_requireIndex_13 : decode cX0_requireIndex 13 = .ok (.dup, 1) := by decide +kernel
theorem dX0_requireIndex_14 : decode cX0_requireIndex 14 = .ok (.ldc 141, 2) := by decide +kernel
theorem dX0_requireIndex_16 : decode cX0_requireIndex 16 = .ok (.invokespecial 143, 3) := by decide +kernel
theorem dX0_requireIndex_19 : decode cX0_requireIndex 19 = .ok (.athrow, 1) := by decide +kernel
theorem dX0_requireIndex_20 : decode cX0_requireIndex 20 = .ok (.return_, 1) := by decide +kernel
theorem dX0_requireRange_0 : decode cX0_requireRange 0 = .ok (.iload_n 0, 1) := by decide +kernel
theorem dX0_requireRange_1 : decode cX0_requireRange 1 = .ok (.iload_n 1, 1) := by decide +kernel
theorem dX0_requireRange_2 : decode cX0_requireRange 2 = .ok (.if_icmp .lt 8, 3) := by decide +kernel
theorem dX0_requireRange_5 : decode cX0_requireRange 5 = .ok (.iload_n 0, 1) := by decide +kernel
theorem dX0_requireRange_6 : decode cX0_requireRange 6 = .ok (.iload_n 2, 1) := by decide +kernel
theorem dX0_requireRange_7 : decode cX0_requireRange 7 = .ok (.if_icmp .le 13, 3) := by decide +kernel
theorem dX0_requireRange_10 : decode cX0_requireRange 10 = .ok (.new 144, 3) := by decide +kernel
theorem dX0_requireRange_13 : decode cX0_requireRange 13 = .ok (.dup, 1) := by decide +kernel
theorem dX0_requireRange_14 : decode cX0_requireRange 14 = .ok (.ldc 146, 2) := by decide +kernel
theorem dX0_requireRange_16 : decode cX0_requireRange 16 = .ok (.invokespecial 148, 3) := by decide +kernel
theorem dX0_requireRange_19 : decode cX0_requireRange 19 = .ok (.athrow, 1) := by decide +kernel
theorem dX0_requireRange_20 : decode cX0_requireRange 20 = .ok (.return_, 1) := by decide +kernel
theorem dX0_bitsOf_0 : decode cX0_bitsOf 0 = .ok (.fload_n 0, 1) := by decide +kernel
theorem dX0_bitsOf_1 : decode cX0_bitsOf 1 = .ok (.fconst 0, 1) := by decide +kernel
theorem dX0_bitsOf_2 : decode cX0_bitsOf 2 = .ok (.fcmp .l, 1) := by decide +kernel
theorem dX0_bitsOf_3 : decode cX0_bitsOf 3 = .ok (.ifCond .ne 5, 3) := by decide +kernel
theorem dX0_bitsOf_6 : decode cX0_bitsOf 6 = .ok (.iconst 0, 1) := by decide +kernel
theorem dX0_bitsOf_7 : decode cX0_bitsOf 7 = .ok (.ireturn, 1) := by decide +kernel
theorem dX0_bitsOf_8 : decode cX0_bitsOf 8 = .ok (.fload_n 0, 1) := by decide +kernel
theorem dX0_bitsOf_9 : decode cX0_bitsOf 9 = .ok (.fconst 0, 1) := by decide +kernel
theorem dX0_bitsOf_10 : decode cX0_bitsOf 10 = .ok (.fcmp .g, 1) := by decide +kernel
theorem dX0_bitsOf_11 : decode cX0_bitsOf 11 = .ok (.ifCond .ge 8, 3) := by decide +kernel
theorem dX0_bitsOf_14 : decode cX0_bitsOf 14 = .ok (.fload_n 0, 1) := by decide +kernel
theorem dX0_bitsOf_15 : decode cX0_bitsOf 15 = .ok (.fneg, 1) := by decide +kernel
theorem dX0_bitsOf_16 : decode cX0_bitsOf 16 = .ok (.goto 4, 3) := by decide +kernel
theorem dX0_bitsOf_19 : decode cX0_bitsOf 19 = .ok (.fload_n 0, 1) := by decide +kernel
theorem dX0_bitsOf_20 : decode cX0_bitsOf 20 = .ok (.fstore_n 1, 1) := by decide +kernel
theorem dX0_bitsOf_21 : decode cX0_bitsOf 21 = .ok (.bipush 127, 2) := by decide +kernel
theorem dX0_bitsOf_23 : decode cX0_bitsOf 23 = .ok (.istore_n 2, 1) := by decide +kernel
theorem dX0_bitsOf_24 : decode cX0_bitsOf 24 = .ok (.iconst 0, 1) := by decide +kernel
theorem dX0_bitsOf_25 : decode cX0_bitsOf 25 = .ok (.istore_n 3, 1) := by decide +kernel
theorem dX0_bitsOf_26 : decode cX0_bitsOf 26 = .ok (.iload_n 3, 1) := by decide +kernel
theorem dX0_bitsOf_27 : decode cX0_bitsOf 27 = .ok (.bipush 127, 2) := by decide +kernel
theorem dX0_bitsOf_29 : decode cX0_bitsOf 29 = .ok (.if_icmp .ge 23, 3) := by decide +kernel
theorem dX0_bitsOf_32 : decode cX0_bitsOf 32 = .ok (.fload_n 1, 1) := by decide +kernel
theorem dX0_bitsOf_33 : decode cX0_bitsOf 33 = .ok (.fconst 2, 1) := by decide +kernel
theorem dX0_bitsOf_34 : decode cX0_bitsOf 34 = .ok (.fcmp .l, 1) := by decide +kernel
theorem dX0_bitsOf_35 : decode cX0_bitsOf 35 = .ok (.ifCond .lt 17, 3) := by decide +kernel
theorem dX0_bitsOf_38 : decode cX0_bitsOf 38 = .ok (.fload_n 1, 1) := by decide +kernel
theorem dX0_bitsOf_39 : decode cX0_bitsOf 39 = .ok (.ldc 128, 2) := by decide +kernel
theorem dX0_bitsOf_41 : decode cX0_bitsOf 41 = .ok (.fmul, 1) := by decide +kernel
theorem dX0_bitsOf_42 : decode cX0_bitsOf 42 = .ok (.fstore_n 1, 1) := by decide +kernel
theorem dX0_bitsOf_43 : decode cX0_bitsOf 43 = .ok (.iinc 2 1, 3) := by decide +kernel
theorem dX0_bitsOf_46 : decode cX0_bitsOf 46 = .ok (.iinc 3 1, 3) := by decide +kernel
theorem dX0_bitsOf_49 : decode cX0_bitsOf 49 = .ok (.goto (-23), 3) := by decide +kernel
theorem dX0_bitsOf_52 : decode cX0_bitsOf 52 = .ok (.iconst 0, 1) := by decide +kernel
theorem dX0_bitsOf_53 : decode cX0_bitsOf 53 = .ok (.istore_n 3, 1) := by decide +kernel
theorem dX0_bitsOf_54 : decode cX0_bitsOf 54 = .ok (.iload_n 3, 1) := by decide +kernel
theorem dX0_bitsOf_55 : decode cX0_bitsOf 55 = .ok (.bipush 127, 2) := by decide +kernel
theorem dX0_bitsOf_57 : decode cX0_bitsOf 57 = .ok (.if_icmp .ge 22, 3) := by decide +kernel
theorem dX0_bitsOf_60 : decode cX0_bitsOf 60 = .ok (.fload_n 1, 1) := by decide +kernel
theorem dX0_bitsOf_61 : decode cX0_bitsOf 61 = .ok (.fconst 1, 1) := by decide +kernel
theorem dX0_bitsOf_62 : decode cX0_bitsOf 62 = .ok (.fcmp .g, 1) := by decide +kernel
theorem dX0_bitsOf_63 : decode cX0_bitsOf 63 = .ok (.ifCond .ge 16, 3) := by decide +kernel
theorem dX0_bitsOf_66 : decode cX0_bitsOf 66 = .ok (.fload_n 1, 1) := by decide +kernel
theorem dX0_bitsOf_67 : decode cX0_bitsOf 67 = .ok (.fconst 2, 1) := by decide +kernel
theorem dX0_bitsOf_68 : decode cX0_bitsOf 68 = .ok (.fmul, 1) := by decide +kernel
theorem dX0_bitsOf_69 : decode cX0_bitsOf 69 = .ok (.fstore_n 1, 1) := by decide +kernel
theorem dX0_bitsOf_70 : decode cX0_bitsOf 70 = .ok (.iinc 2 (-1), 3) := by decide +kernel
theorem dX0_bitsOf_73 : decode cX0_bitsOf 73 = .ok (.iinc 3 1, 3) := by decide +kernel
theorem dX0_bitsOf_76 : decode cX0_bitsOf 76 = .ok (.goto (-22), 3) := by decide +kernel
theorem dX0_bitsOf_79 : decode cX0_bitsOf 79 = .ok (.fload_n 1, 1) := by decide +kernel
theorem dX0_bitsOf_80 : decode cX0_bitsOf 80 = .ok (.fconst 1, 1) := by decide +kernel
theorem dX0_bitsOf_81 : decode cX0_bitsOf 81 = .ok (.fsub, 1) := by decide +kernel
theorem dX0_bitsOf_82 : decode cX0_bitsOf 82 = .ok (.ldc 149, 2) := by decide +kernel
theorem dX0_bitsOf_84 : decode cX0_bitsOf 84 = .ok (.fmul, 1) := by decide +kernel
theorem dX0_bitsOf_85 : decode cX0_bitsOf 85 = .ok (.f2i, 1) := by decide +kernel
theorem dX0_bitsOf_86 : decode cX0_bitsOf 86 = .ok (.istore_n 3, 1) := by decide +kernel
theorem dX0_bitsOf_87 : decode cX0_bitsOf 87 = .ok (.iload_n 2, 1) := by decide +kernel
theorem dX0_bitsOf_88 : decode cX0_bitsOf 88 = .ok (.bipush 23, 2) := by decide +kernel
theorem dX0_bitsOf_90 : decode cX0_bitsOf 90 = .ok (.ishl, 1) := by decide +kernel
theorem dX0_bitsOf_91 : decode cX0_bitsOf 91 = .ok (.iload_n 3, 1) := by decide +kernel
theorem dX0_bitsOf_92 : decode cX0_bitsOf 92 = .ok (.ior, 1) := by decide +kernel
theorem dX0_bitsOf_93 : decode cX0_bitsOf 93 = .ok (.istore 4, 2) := by decide +kernel
theorem dX0_bitsOf_95 : decode cX0_bitsOf 95 = .ok (.fload_n 0, 1) := by decide +kernel
theorem dX0_bitsOf_96 : decode cX0_bitsOf 96 = .ok (.fconst 0, 1) := by decide +kernel
theorem dX0_bitsOf_97 : decode cX0_bitsOf 97 = .ok (.fcmp .g, 1) := by decide +kernel
theorem dX0_bitsOf_98 : decode cX0_bitsOf 98 = .ok (.ifCond .ge 11, 3) := by decide +kernel
theorem dX0_bitsOf_101 : decode cX0_bitsOf 101 = .ok (.iload 4, 2) := by decide +kernel
theorem dX0_bitsOf_103 : decode cX0_bitsOf 103 = .ok (.ldc 150, 2) := by decide +kernel
theorem dX0_bitsOf_105 : decode cX0_bitsOf 105 = .ok (.ior, 1) := by decide +kernel
theorem dX0_bitsOf_106 : decode cX0_bitsOf 106 = .ok (.goto 5, 3) := by decide +kernel
theorem dX0_bitsOf_109 : decode cX0_bitsOf 109 = .ok (.iload 4, 2) := by decide +kernel
theorem dX0_bitsOf_111 : decode cX0_bitsOf 111 = .ok (.ireturn, 1) := by decide +kernel
theorem dX1_init_0 : decode cX1_init 0 = .ok (.aload_n 0, 1) := by decide +kernel
theorem dX1_init_1 : decode cX1_init 1 = .ok (.invokespecial 1, 3) := by decide +kernel
theorem dX1_init_4 : decode cX1_init 4 = .ok (.aload_n 0, 1) := by decide +kernel
theorem dX1_init_5 : decode cX1_init 5 = .ok (.bipush 24, 2) := by decide +kernel
theorem dX1_init_7 : decode cX1_init 7 = .ok (.newarray .int, 2) := by decide +kernel
theorem dX1_init_9 : decode cX1_init 9 = .ok (.putfield 7, 3) := by decide +kernel
theorem dX1_init_12 : decode cX1_init 12 = .ok (.aload_n 0, 1) := by decide +kernel
theorem dX1_init_13 : decode cX1_init 13 = .ok (.bipush 24, 2) := by decide +kernel
theorem dX1_init_15 : decode cX1_init 15 = .ok (.newarray .int, 2) := by decide +kernel
theorem dX1_init_17 : decode cX1_init 17 = .ok (.putfield 13, 3) := by decide +kernel
theorem dX1_init_20 : decode cX1_init 20 = .ok (.aload_n 0, 1) := by decide +kernel
theorem dX1_init_21 : decode cX1_init 21 = .ok (.iconst 4, 1) := by decide +kernel
theorem dX1_init_22 : decode cX1_init 22 = .ok (.newarray .int, 2) := by decide +kernel
theorem dX1_init_24 : decode cX1_init 24 = .ok (.putfield 16, 3) := by decide +kernel
theorem dX1_init_27 : decode cX1_init 27 = .ok (.aload_n 0, 1) := by decide +kernel
theorem dX1_init_28 : decode cX1_init 28 = .ok (.iconst 4, 1) := by decide +kernel
theorem dX1_init_29 : decode cX1_init 29 = .ok (.newarray .int, 2) := by decide +kernel
theorem dX1_init_31 : decode cX1_init 31 = .ok (.putfield 19, 3) := by decide +kernel
theorem dX1_init_34 : decode cX1_init 34 = .ok (.aload_n 0, 1) := by decide +kernel
theorem dX1_init_35 : decode cX1_init 35 = .ok (.iconst 4, 1) := by decide +kernel
theorem dX1_init_36 : decode cX1_init 36 = .ok (.newarray .int, 2) := by decide +kernel
theorem dX1_init_38 : decode cX1_init 38 = .ok (.putfield 22, 3) := by decide +kernel
theorem dX1_init_41 : decode cX1_init 41 = .ok (.aload_n 0, 1) := by decide +kernel
theorem dX1_init_42 : decode cX1_init 42 = .ok (.bipush 100, 2) := by decide +kernel
theorem dX1_init_44 : decode cX1_init 44 = .ok (.putfield 25, 3) := by decide +kernel
theorem dX1_init_47 : decode cX1_init 47 = .ok (.aload_n 0, 1) := by decide +kernel
theorem dX1_init_48 : decode cX1_init 48 = .ok (.sipush 548, 3) := by decide +kernel
theorem dX1_init_51 : decode cX1_init 51 = .ok (.newarray .int, 2) := by decide +kernel
theorem dX1_init_53 : decode cX1_init 53 = .ok (.putfield 29, 3) := by decide +kernel
theorem dX1_init_56 : decode cX1_init 56 = .ok (.aload_n 0, 1) := by decide +kernel
theorem dX1_init_57 : decode cX1_init 57 = .ok (.sipush 500, 3) := by decide +kernel
theorem dX1_init_60 : decode cX1_init 60 = .ok (.newarray .int, 2) := by decide +kernel
theorem dX1_init_62 : decode cX1_init 62 = .ok (.putfield 32, 3) := by decide +kernel
theorem dX1_init_65 : decode cX1_init 65 = .ok (.aload_n 0, 1) := by decide +kernel
theorem dX1_init_66 : decode cX1_init 66 = .ok (.sipush 500, 3) := by decide +kernel
theorem dX1_init_69 : decode cX1_init 69 = .ok (.newarray .int, 2) := by decide +kernel
theorem dX1_init_71 : decode cX1_init 71 = .ok (.putfield 35, 3) := by decide +kernel
theorem dX1_init_74 : decode cX1_init 74 = .ok (.aload_n 0, 1) := by decide +kernel
theorem dX1_init_75 : decode cX1_init 75 = .ok (.sipush 500, 3) := by decide +kernel
theorem dX1_init_78 : decode cX1_init 78 = .ok (.newarray .int, 2) := by decide +kernel
theorem dX1_init_80 : decode cX1_init 80 = .ok (.putfield 38, 3) := by decide +kernel
theorem dX1_init_83 : decode cX1_init 83 = .ok (.iconst 0, 1) := by decide +kernel
theorem dX1_init_84 : decode cX1_init 84 = .ok (.istore_n 1, 1) := by decide +kernel
theorem dX1_init_85 : decode cX1_init 85 = .ok (.iload_n 1, 1) := by decide +kernel
theorem dX1_init_86 : decode cX1_init 86 = .ok (.bipush 24, 2) := by decide +kernel
theorem dX1_init_88 : decode cX1_init 88 = .ok (.if_icmp .ge 17, 3) := by decide +kernel
theorem dX1_init_91 : decode cX1_init 91 = .ok (.aload_n 0, 1) := by decide +kernel
theorem dX1_init_92 : decode cX1_init 92 = .ok (.getfield 13, 3) := by decide +kernel
theorem dX1_init_95 : decode cX1_init 95 = .ok (.iload_n 1, 1) := by decide +kernel
theorem dX1_init_96 : decode cX1_init 96 = .ok (.bipush 10, 2) := by decide +kernel
theorem dX1_init_98 : decode cX1_init 98 = .ok (.iastore, 1) := by decide +kernel
theorem dX1_init_99 : decode cX1_init 99 = .ok (.iinc 1 1, 3) := by decide +kernel
theorem dX1_init_102 : decode cX1_init 102 = .ok (.goto (-17), 3) := by decide +kernel
theorem dX1_init_105 : decode cX1_init 105 = .ok (.return_, 1) := by decide +kernel
theorem dX1_thrown_0 : decode cX1_thrown 0 = .ok (.aload_n 0, 1) := by decide +kernel
theorem dX1_thrown_1 : decode cX1_thrown 1 = .ok (.getfield 41, 3) := by decide +kernel
theorem dX1_thrown_4 : decode cX1_thrown 4 = .ok (.ireturn, 1) := by decide +kernel
theorem dX1_isIn_0 : decode cX1_isIn 0 = .ok (.iload_n 0, 1) := by decide +kernel
theorem dX1_isIn_1 : decode cX1_isIn 1 = .ok (.iload_n 1, 1) := by decide +kernel
theorem dX1_isIn_2 : decode cX1_isIn 2 = .ok (.if_icmp .lt 12, 3) := by decide +kernel
theorem dX1_isIn_5 : decode cX1_isIn 5 = .ok (.iload_n 0, 1) := by decide +kernel
theorem dX1_isIn_6 : decode cX1_isIn 6 = .ok (.iload_n 2, 1) := by decide +kernel
theorem dX1_isIn_7 : decode cX1_isIn 7 = .ok (.if_icmp .gt 7, 3) := by decide +kernel
theorem dX1_isIn_10 : decode cX1_isIn 10 = .ok (.iconst 1, 1) := by decide +kernel
theorem dX1_isIn_11 : decode cX1_isIn 11 = .ok (.goto 4, 3) := by decide +kernel
theorem dX1_isIn_14 : decode cX1_isIn 14 = .ok (.iconst 0, 1) := by decide +kernel
theorem dX1_isIn_15 : decode cX1_isIn 15 = .ok (.ireturn, 1) := by decide +kernel
set_option maxRecDepth 20000 in
theorem ggX1_isTurbine_X1_isIn : GoodIn wsX1_isTurbine wsX1_isIn := goodIn_r _ [5] (by decide +kernel) (by decide +kernel)
set_option maxRecDepth 20000 in
theorem gX1_isTurbine_X1_isIn : GoodIn wsX1_isTurbine (va_wsS RX1 47 yX1_isIn wsX1_isIn) := goodIn_app (goodIn_of _ (by decide +kernel)) ggX1_isTurbine_X1_isIn
theorem dX1_isTurbine_0 : decode cX1_isTurbine 0 = .ok (.iload_n 1, 1) := by decide +kernel
theorem dX1_isTurbine_1 : decode cX1_isTurbine 1 = .ok (.iconst 0, 1) := by decide +kernel
theorem dX1_isTurbine_2 : decode cX1_isTurbine 2 = .ok (.aload_n 0, 1) := by decide +kernel
theorem dX1_isTurbine_3 : decode cX1_isTurbine 3 = .ok (.getfield 44, 3) := by decide +kernel
theorem dX1_isTurbine_6 : decode cX1_isTurbine 6 = .ok (.iconst 1, 1) := by decide +kernel
theorem dX1_isTurbine_7 : decode cX1_isTurbine 7 = .ok (.isub, 1) := by decide +kernel
theorem dX1_isTurbine_8 : decode cX1_isTurbine 8 = .ok (.invokestatic 47, 3) := by decide +kernel
theorem dX1_isTurbine_11 : decode cX1_isTurbine 11 = .ok (.ireturn, 1) := by decide +kernel
set_option maxRecDepth 20000 in
theorem ggX1_tide_X1_isIn : GoodIn wsX1_tide wsX1_isIn := goodIn_r _ [6] (by decide +kernel) (by decide +kernel)
set_option maxRecDepth 20000 in
theorem gX1_tide_X1_isIn : GoodIn wsX1_tide (va_wsS RX1 47 yX1_isIn wsX1_isIn) := goodIn_app (goodIn_of _ (by decide +kernel)) ggX1_tide_X1_isIn
theorem dX1_tide_0 : decode cX1_tide 0 = .ok (.aload_n 0, 1) := by decide +kernel
theorem dX1_tide_1 : decode cX1_tide 1 = .ok (.iload_n 1, 1) := by decide +kernel
theorem dX1_tide_2 : decode cX1_tide 2 = .ok (.iconst 0, 1) := by decide +kernel
theorem dX1_tide_3 : decode cX1_tide 3 = .ok (.bipush 23, 2) := by decide +kernel
theorem dX1_tide_5 : decode cX1_tide 5 = .ok (.invokestatic 47, 3) := by decide +kernel
theorem dX1_tide_8 : decode cX1_tide 8 = .ok (.ifCond .ne 7, 3) := by decide +kernel
theorem dX1_tide_11 : decode cX1_tide 11 = .ok (.iconst 1, 1) := by decide +kernel
theorem dX1_tide_12 : decode cX1_tide 12 = .ok (.goto 19, 3) := by decide +kernel
theorem dX1_tide_15 : decode cX1_tide 15 = .ok (.iload_n 2, 1) := by decide +kernel
theorem dX1_tide_16 : decode cX1_tide 16 = .ok (.bipush (-100), 2) := by decide +kernel
theorem dX1_tide_18 : decode cX1_tide 18 = .ok (.bipush 100, 2) := by decide +kernel
theorem dX1_tide_20 : decode cX1_tide 20 = .ok (.invokestatic 47, 3) := by decide +kernel
theorem dX1_tide_23 : decode cX1_tide 23 = .ok (.ifCond .ne 7, 3) := by decide +kernel
theorem dX1_tide_26 : decode cX1_tide 26 = .ok (.iconst 2, 1) := by decide +kernel
theorem dX1_tide_27 : decode cX1_tide 27 = .ok (.goto 4, 3) := by decide +kernel
theorem dX1_tide_30 : decode cX1_tide 30 = .ok (.iconst 0, 1) := by decide +kernel
theorem dX1_tide_31 : decode cX1_tide 31 = .ok (.putfield 41, 3) := by decide +kernel
theorem dX1_tide_34 : decode cX1_tide 34 = .ok (.aload_n 0, 1) := by decide +kernel
theorem dX1_tide_35 : decode cX1_tide 35 = .ok (.getfield 41, 3) := by decide +kernel
theorem dX1_tide_38 : decode cX1_tide 38 = .ok (.ifCond .le 5, 3) := by decide +kernel
theorem dX1_tide_41 : decode cX1_tide 41 = .ok (.iconst 0, 1) := by decide +kernel
theorem dX1_tide_42 : decode cX1_tide 42 = .ok (.ireturn, 1) := by decide +kernel
theorem dX1_tide_43 : decode cX1_tide 43 = .ok (.aload_n 0, 1) := by decide +kernel
theorem dX1_tide_44 : decode cX1_tide 44 = .ok (.getfield 7, 3) := by decide +kernel
theorem dX1_tide_47 : decode cX1_tide 47 = .ok (.iload_n 1, 1) := by decide +kernel
theorem dX1_tide_48 : decode cX1_tide 48 = .ok (.iaload, 1) := by decide +kernel
theorem dX1_tide_49 : decode cX1_tide 49 = .ok (.istore_n 3, 1) := by decide +kernel
theorem dX1_tide_50 : decode cX1_tide 50 = .ok (.aload_n 0, 1) := by decide +kernel
theorem dX1_tide_51 : decode cX1_tide 51 = .ok (.getfield 7, 3) := by decide +kernel
theorem dX1_tide_54 : decode cX1_tide 54 = .ok (.iload_n 1, 1) := by decide +kernel
theorem dX1_tide_55 : decode cX1_tide 55 = .ok (.iload_n 2, 1) := by decide +kernel
theorem dX1_tide_56 : decode cX1_tide 56 = .ok (.iastore, 1) := by decide +kernel
theorem dX1_tide_57 : decode cX1_tide 57 = .ok (.iload_n 3, 1) := by decide +kernel
theorem dX1_tide_58 : decode cX1_tide 58 = .ok (.ireturn, 1) := by decide +kernel
set_option maxRecDepth 20000 in
theorem ggX1_price_X1_isIn : GoodIn wsX1_price wsX1_isIn := goodIn_r _ [6] (by decide +kernel) (by decide +kernel)
set_option maxRecDepth 20000 in
theorem gX1_price_X1_isIn : GoodIn wsX1_price (va_wsS RX1 47 yX1_isIn wsX1_isIn) := goodIn_app (goodIn_of _ (by decide +kernel)) ggX1_price_X1_isIn
theorem dX1_price_0 : decode cX1_price 0 = .ok (.aload_n 0, 1) := by decide +kernel
theorem dX1_price_1 : decode cX1_price 1 = .ok (.iload_n 1, 1) := by decide +kernel
theorem dX1_price_2 : decode cX1_price 2 = .ok (.iconst 0, 1) := by decide +kernel
theorem dX1_price_3 : decode cX1_price 3 = .ok (.bipush 23, 2) := by decide +kernel
theorem dX1_price_5 : decode cX1_price 5 = .ok (.invokestatic 47, 3) := by decide +kernel
theorem dX1_price_8 : decode cX1_price 8 = .ok (.ifCond .ne 7, 3) := by decide +kernel
theorem dX1_price_11 : decode cX1_price 11 = .ok (.iconst 1, 1) := by decide +kernel
theorem dX1_price_12 : decode cX1_price 12 = .ok (.goto 19, 3) := by decide +kernel
theorem dX1_price_15 : decode cX1_price 15 = .ok (.iload_n 2, 1) := by decide +kernel
theorem dX1_price_16 : decode cX1_price 16 = .ok (.iconst 1, 1) := by decide +kernel
theorem dX1_price_17 : decode cX1_price 17 = .ok (.sipush 200, 3) := by decide +kernel
theorem dX1_price_20 : decode cX1_price 20 = .ok (.invokestatic 47, 3) := by decide +kernel
theorem dX1_price_23 : decode cX1_price 23 = .ok (.ifCond .ne 7, 3) := by decide +kernel
theorem dX1_price_26 : decode cX1_price 26 = .ok (.iconst 2, 1) := by decide +kernel
theorem dX1_price_27 : decode cX1_price 27 = .ok (.goto 4, 3) := by decide +kernel
theorem dX1_price_30 : decode cX1_price 30 = .ok (.iconst 0, 1) := by decide +kernel
theorem dX1_price_31 : decode cX1_price 31 = .ok (.putfield 41, 3) := by decide +kernel
theorem dX1_price_34 : decode cX1_price 34 = .ok (.aload_n 0, 1) := by decide +kernel
theorem dX1_price_35 : decode cX1_price 35 = .ok (.getfield 41, 3) := by decide +kernel
theorem dX1_price_38 : decode cX1_price 38 = .ok (.ifCond .le 5, 3) := by decide +kernel
theorem dX1_price_41 : decode cX1_price 41 = .ok (.iconst 0, 1) := by decide +kernel
theorem dX1_price_42 : decode cX1_price 42 = .ok (.ireturn, 1) := by decide +kernel
theorem dX1_price_43 : decode cX1_price 43 = .ok (.aload_n 0, 1) := by decide +kernel
theorem dX1_price_44 : decode cX1_price 44 = .ok (.getfield 13, 3) := by decide +kernel
theorem dX1_price_47 : decode cX1_price 47 = .ok (.iload_n 1, 1) := by decide +kernel
theorem dX1_price_48 : decode cX1_price 48 = .ok (.iaload, 1) := by decide +kernel
theorem dX1_price_49 : decode cX1_price 49 = .ok (.istore_n 3, 1) := by decide +kernel
theorem dX1_price_50 : decode cX1_price 50 = .ok (.aload_n 0, 1) := by decide +kernel
theorem dX1_price_51 : decode cX1_price 51 = .ok (.getfield 13, 3) := by decide +kernel
theorem dX1_price_54 : decode cX1_price 54 = .ok (.iload_n 1, 1) := by decide +kernel
theorem dX1_price_55 : decode cX1_price 55 = .ok (.iload_n 2, 1) := by decide +kernel
theorem dX1_price_56 : decode cX1_price 56 = .ok (.iastore, 1) := by decide +kernel
theorem dX1_price_57 : decode cX1_price 57 = .ok (.iload_n 3, 1) := by decide +kernel
theorem dX1_price_58 : decode cX1_price 58 = .ok (.ireturn, 1) := by decide +kernel
set_option maxRecDepth 20000 in
theorem ggX1_wind_X1_isIn : GoodIn wsX1_wind wsX1_isIn := goodIn_r _ [6] (by decide +kernel) (by decide +kernel)
set_option maxRecDepth 20000 in
theorem gX1_wind_X1_isIn : GoodIn wsX1_wind (va_wsS RX1 47 yX1_isIn wsX1_isIn) := goodIn_app (goodIn_of _ (by decide +kernel)) ggX1_wind_X1_isIn
theorem dX1_wind_0 : decode cX1_wind 0 = .ok (.aload_n 0, 1) := by decide +kernel
theorem dX1_wind_1 : decode cX1_wind 1 = .ok (.iload_n 1, 1) := by decide +kernel
theorem dX1_wind_2 : decode cX1_wind 2 = .ok (.bipush (-20), 2) := by decide +kernel
theorem dX1_wind_4 : decode cX1_wind 4 = .ok (.bipush 20, 2) := by decide +kernel
theorem dX1_wind_6 : decode cX1_wind 6 = .ok (.invokestatic 47, 3) := by decide +kernel
theorem dX1_wind_9 : decode cX1_wind 9 = .ok (.ifCond .eq 7, 3) := by decide +kernel
theorem dX1_wind_12 : decode cX1_wind 12 = .ok (.iconst 0, 1) := by decide +kernel
theorem dX1_wind_13 : decode cX1_wind 13 = .ok (.goto 4, 3) := by decide +kernel
theorem dX1_wind_16 : decode cX1_wind 16 = .ok (.iconst 1, 1) := by decide +kernel
theorem dX1_wind_17 : decode cX1_wind 17 = .ok (.putfield 41, 3) := by decide +kernel
theorem dX1_wind_20 : decode cX1_wind 20 = .ok (.aload_n 0, 1) := by decide +kernel
theorem dX1_wind_21 : decode cX1_wind 21 = .ok (.getfield 41, 3) := by decide +kernel
theorem dX1_wind_24 : decode cX1_wind 24 = .ok (.ifCond .le 5, 3) := by decide +kernel
theorem dX1_wind_27 : decode cX1_wind 27 = .ok (.iconst 0, 1) := by decide +kernel
theorem dX1_wind_28 : decode cX1_wind 28 = .ok (.ireturn, 1) := by decide +kernel
theorem dX1_wind_29 : decode cX1_wind 29 = .ok (.aload_n 0, 1) := by decide +kernel
theorem dX1_wind_30 : decode cX1_wind 30 = .ok (.getfield 51, 3) := by decide +kernel
theorem dX1_wind_33 : decode cX1_wind 33 = .ok (.istore_n 2, 1) := by decide +kernel
theorem dX1_wind_34 : decode cX1_wind 34 = .ok (.aload_n 0, 1) := by decide +kernel
theorem dX1_wind_35 : decode cX1_wind 35 = .ok (.iload_n 1, 1) := by decide +kernel
theorem dX1_wind_36 : decode cX1_wind 36 = .ok (.putfield 51, 3) := by decide +kernel
theorem dX1_wind_39 : decode cX1_wind 39 = .ok (.iload_n 2, 1) := by decide +kernel
theorem dX1_wind_40 : decode cX1_wind 40 = .ok (.ireturn, 1) := by decide +kernel
theorem dX1_turbine_0 : decode cX1_turbine 0 = .ok (.aload_n 0, 1) := by decide +kernel
theorem dX1_turbine_1 : decode cX1_turbine 1 = .ok (.aload_n 0, 1) := by decide +kernel
theorem dX1_turbine_2 : decode cX1_turbine 2 = .ok (.getfield 44, 3) := by decide +kernel
theorem dX1_turbine_5 : decode cX1_turbine 5 = .ok (.iconst 4, 1) := by decide +kernel
theorem dX1_turbine_6 : decode cX1_turbine 6 = .ok (.if_icmp .ne 7, 3) := by decide +kernel
theorem dX1_turbine_9 : decode cX1_turbine 9 = .ok (.iconst 1, 1) := by decide +kernel
theorem dX1_turbine_10 : decode cX1_turbine 10 = .ok (.goto 4, 3) := by decide +kernel
theorem dX1_turbine_13 : decode cX1_turbine 13 = .ok (.iconst 0, 1) := by decide +kernel
theorem dX1_turbine_14 : decode cX1_turbine 14 = .ok (.putfield 41, 3) := by decide +kernel
theorem dX1_turbine_17 : decode cX1_turbine 17 = .ok (.aload_n 0, 1) := by decide +kernel
theorem dX1_turbine_18 : decode cX1_turbine 18 = .ok (.getfield 41, 3) := by decide +kernel
theorem dX1_turbine_21 : decode cX1_turbine 21 = .ok (.ifCond .le 5, 3) := by decide +kernel
theorem dX1_turbine_24 : decode cX1_turbine 24 = .ok (.iconst 0, 1) := by decide +kernel
theorem dX1_turbine_25 : decode cX1_turbine 25 = .ok (.ireturn, 1) := by decide +kernel
theorem dX1_turbine_26 : decode cX1_turbine 26 = .ok (.aload_n 0, 1) := by decide +kernel
theorem dX1_turbine_27 : decode cX1_turbine 27 = .ok (.dup, 1) := by decide +kernel
theorem dX1_turbine_28 : decode cX1_turbine 28 = .ok (.getfield 44, 3) := by decide +kernel
theorem dX1_turbine_31 : decode cX1_turbine 31 = .ok (.iconst 1, 1) := by decide +kernel
theorem dX1_turbine_32 : decode cX1_turbine 32 = .ok (.iadd, 1) := by decide +kernel
theorem dX1_turbine_33 : decode cX1_turbine 33 = .ok (.putfield 44, 3) := by decide +kernel
theorem dX1_turbine_36 : decode cX1_turbine 36 = .ok (.aload_n 0, 1) := by decide +kernel
theorem dX1_turbine_37 : decode cX1_turbine 37 = .ok (.getfield 44, 3) := by decide +kernel
theorem dX1_turbine_40 : decode cX1_turbine 40 = .ok (.iconst 1, 1) := by decide +kernel
theorem dX1_turbine_41 : decode cX1_turbine 41 = .ok (.isub, 1) := by decide +kernel
theorem dX1_turbine_42 : decode cX1_turbine 42 = .ok (.ireturn, 1) := by decide +kernel
set_option maxRecDepth 20000 in
theorem ggX1_gate_X1_isTurbine : GoodIn wsX1_gate wsX1_isTurbine := goodIn_r _ [7, 8, 9, 10, 6, 11, 12, 13, 14, 15, 16, 17, 18, 19, 20, 21, 22, 23, 24, 25, 26, 27, 28] (by decide +kernel) (by decide +kernel)
set_option maxRecDepth 20000 in
theorem gX1_gate_X1_isTurbine : GoodIn wsX1_gate (wsV RX1 54 RX1 yX1_isTurbine wsX1_isTurbine) := goodIn_app (goodIn_of _ (by decide +kernel)) ggX1_gate_X1_isTurbine
set_option maxRecDepth 20000 in
theorem ggX1_gate_X1_isIn : GoodIn wsX1_gate wsX1_isIn := goodIn_r _ [11] (by decide +kernel) (by decide +kernel)
set_option maxRecDepth 20000 in
theorem gX1_gate_X1_isIn : GoodIn wsX1_gate (va_wsS RX1 47 yX1_isIn wsX1_isIn) := goodIn_app (goodIn_of _ (by decide +kernel)) ggX1_gate_X1_isIn
theorem dX1_gate_0 : decode cX1_gate 0 = .ok (.aload_n 0, 1) := by decide +kernel
theorem dX1_gate_1 : decode cX1_gate 1 = .ok (.aload_n 0, 1) := by decide +kernel
theorem dX1_gate_2 : decode cX1_gate 2 = .ok (.iload_n 1, 1) := by decide +kernel
theorem dX1_gate_3 : decode cX1_gate 3 = .ok (.invokevirtual 54, 3) := by decide +kernel
theorem dX1_gate_6 : decode cX1_gate 6 = .ok (.ifCond .ne 7, 3) := by decide +kernel
theorem dX1_gate_9 : decode cX1_gate 9 = .ok (.iconst 1, 1) := by decide +kernel
theorem dX1_gate_10 : decode cX1_gate 10 = .ok (.goto 18, 3) := by decide +kernel
theorem dX1_gate_13 : decode cX1_gate 13 = .ok (.iload_n 2, 1) := by decide +kernel
theorem dX1_gate_14 : decode cX1_gate 14 = .ok (.iconst 0, 1) := by decide +kernel
theorem dX1_gate_15 : decode cX1_gate 15 = .ok (.bipush 7, 2) := by decide +kernel
theorem dX1_gate_17 : decode cX1_gate 17 = .ok (.invokestatic 47, 3) := by decide +kernel
theorem dX1_gate_20 : decode cX1_gate 20 = .ok (.ifCond .ne 7, 3) := by decide +kernel
theorem dX1_gate_23 : decode cX1_gate 23 = .ok (.iconst 2, 1) := by decide +kernel
theorem dX1_gate_24 : decode cX1_gate 24 = .ok (.goto 4, 3) := by decide +kernel
theorem dX1_gate_27 : decode cX1_gate 27 = .ok (.iconst 0, 1) := by decide +kernel
theorem dX1_gate_28 : decode cX1_gate 28 = .ok (.putfield 41, 3) := by decide +kernel
theorem dX1_gate_31 : decode cX1_gate 31 = .ok (.aload_n 0, 1) := by decide +kernel
theorem dX1_gate_32 : decode cX1_gate 32 = .ok (.getfield 41, 3) := by decide +kernel
theorem dX1_gate_35 : decode cX1_gate 35 = .ok (.ifCond .le 5, 3) := by decide +kernel
theorem dX1_gate_38 : decode cX1_gate 38 = .ok (.iconst 0, 1) := by decide +kernel
theorem dX1_gate_39 : decode cX1_gate 39 = .ok (.ireturn, 1) := by decide +kernel
theorem dX1_gate_40 : decode cX1_gate 40 = .ok (.aload_n 0, 1) := by decide +kernel
theorem dX1_gate_41 : decode cX1_gate 41 = .ok (.getfield 16, 3) := by decide +kernel
theorem dX1_gate_44 : decode cX1_gate 44 = .ok (.iload_n 1, 1) := by decide +kernel
theorem dX1_gate_45 : decode cX1_gate 45 = .ok (.iaload, 1) := by decide +kernel
theorem dX1_gate_46 : decode cX1_gate 46 = .ok (.istore_n 3, 1) := by decide +kernel
theorem dX1_gate_47 : decode cX1_gate 47 = .ok (.aload_n 0, 1) := by decide +kernel
theorem dX1_gate_48 : decode cX1_gate 48 = .ok (.getfield 16, 3) := by decide +kernel
theorem dX1_gate_51 : decode cX1_gate 51 = .ok (.iload_n 1, 1) := by decide +kernel
theorem dX1_gate_52 : decode cX1_gate 52 = .ok (.iload_n 2, 1) := by decide +kernel
theorem dX1_gate_53 : decode cX1_gate 53 = .ok (.iastore, 1) := by decide +kernel
theorem dX1_gate_54 : decode cX1_gate 54 = .ok (.iload_n 3, 1) := by decide +kernel
theorem dX1_gate_55 : decode cX1_gate 55 = .ok (.ireturn, 1) := by decide +kernel
set_option maxRecDepth 20000 in
theorem ggX1_repair_X1_isTurbine : GoodIn wsX1_repair wsX1_isTurbine := goodIn_r _ [8, 9, 10, 11, 7, 12, 13, 14, 15, 16, 17, 18, 19, 20, 21, 22, 23, 24, 25, 26, 27, 28, 29] (by decide +kernel) (by decide +kernel)
set_option maxRecDepth 20000 in
theorem gX1_repair_X1_isTurbine : GoodIn wsX1_repair (wsV RX1 54 RX1 yX1_isTurbine wsX1_isTurbine) := goodIn_app (goodIn_of _ (by decide +kernel)) ggX1_repair_X1_isTurbine
theorem dX1_repair_0 : decode cX1_repair 0 = .ok (.aload_n 0, 1) := by decide +kernel
theorem dX1_repair_1 : decode cX1_repair 1 = .ok (.aload_n 0, 1) := by decide +kernel
theorem dX1_repair_2 : decode cX1_repair 2 = .ok (.iload_n 1, 1) := by decide +kernel
theorem dX1_repair_3 : decode cX1_repair 3 = .ok (.invokevirtual 54, 3) := by decide +kernel
theorem dX1_repair_6 : decode cX1_repair 6 = .ok (.ifCond .eq 7, 3) := by decide +kernel
theorem dX1_repair_9 : decode cX1_repair 9 = .ok (.iconst 0, 1) := by decide +kernel
theorem dX1_repair_10 : decode cX1_repair 10 = .ok (.goto 4, 3) := by decide +kernel
theorem dX1_repair_13 : decode cX1_repair 13 = .ok (.iconst 1, 1) := by decide +kernel
theorem dX1_repair_14 : decode cX1_repair 14 = .ok (.putfield 41, 3) := by decide +kernel
theorem dX1_repair_17 : decode cX1_repair 17 = .ok (.aload_n 0, 1) := by decide +kernel
theorem dX1_repair_18 : decode cX1_repair 18 = .ok (.getfield 41, 3) := by decide +kernel
theorem dX1_repair_21 : decode cX1_repair 21 = .ok (.ifCond .le 5, 3) := by decide +kernel
theorem dX1_repair_24 : decode cX1_repair 24 = .ok (.iconst 0, 1) := by decide +kernel
theorem dX1_repair_25 : decode cX1_repair 25 = .ok (.ireturn, 1) := by decide +kernel
theorem dX1_repair_26 : decode cX1_repair 26 = .ok (.aload_n 0, 1) := by decide +kernel
theorem dX1_repair_27 : decode cX1_repair 27 = .ok (.getfield 19, 3) := by decide +kernel
theorem dX1_repair_30 : decode cX1_repair 30 = .ok (.iload_n 1, 1) := by decide +kernel
theorem dX1_repair_31 : decode cX1_repair 31 = .ok (.iaload, 1) := by decide +kernel
theorem dX1_repair_32 : decode cX1_repair 32 = .ok (.istore_n 2, 1) := by decide +kernel
theorem dX1_repair_33 : decode cX1_repair 33 = .ok (.aload_n 0, 1) := by decide +kernel
theorem dX1_repair_34 : decode cX1_repair 34 = .ok (.getfield 19, 3) := by decide +kernel
theorem dX1_repair_37 : decode cX1_repair 37 = .ok (.iload_n 1, 1) := by decide +kernel
theorem dX1_repair_38 : decode cX1_repair 38 = .ok (.iconst 0, 1) := by decide +kernel
theorem dX1_repair_39 : decode cX1_repair 39 = .ok (.iastore, 1) := by decide +kernel
theorem dX1_repair_40 : decode cX1_repair 40 = .ok (.aload_n 0, 1) := by decide +kernel
theorem dX1_repair_41 : decode cX1_repair 41 = .ok (.getfield 22, 3) := by decide +kernel
theorem dX1_repair_44 : decode cX1_repair 44 = .ok (.iload_n 1, 1) := by decide +kernel
theorem dX1_repair_45 : decode cX1_repair 45 = .ok (.iconst 5, 1) := by decide +kernel
theorem dX1_repair_46 : decode cX1_repair 46 = .ok (.iastore, 1) := by decide +kernel
theorem dX1_repair_47 : decode cX1_repair 47 = .ok (.iload_n 2, 1) := by decide +kernel
theorem dX1_repair_48 : decode cX1_repair 48 = .ok (.ireturn, 1) := by decide +kernel
set_option maxRecDepth 20000 in
theorem ggX1_run_X1_isIn : GoodIn wsX1_run wsX1_isIn := goodIn_r _ [7] (by decide +kernel) (by decide +kernel)
set_option maxRecDepth 20000 in
theorem gX1_run_X1_isIn : GoodIn wsX1_run (va_wsS RX1 47 yX1_isIn wsX1_isIn) := goodIn_app (goodIn_of _ (by decide +kernel)) ggX1_run_X1_isIn
theorem dX1_run_0 : decode cX1_run 0 = .ok (.aload_n 0, 1) := by decide +kernel
theorem dX1_run_1 : decode cX1_run 1 = .ok (.iload_n 1, 1) := by decide +kernel
theorem dX1_run_2 : decode cX1_run 2 = .ok (.iconst 0, 1) := by decide +kernel
theorem dX1_run_3 : decode cX1_run 3 = .ok (.sipush 1000, 3) := by decide +kernel
theorem dX1_run_6 : decode cX1_run 6 = .ok (.invokestatic 47, 3) := by decide +kernel
theorem dX1_run_9 : decode cX1_run 9 = .ok (.ifCond .eq 7, 3) := by decide +kernel
theorem dX1_run_12 : decode cX1_run 12 = .ok (.iconst 0, 1) := by decide +kernel
theorem dX1_run_13 : decode cX1_run 13 = .ok (.goto 4, 3) := by decide +kernel
theorem dX1_run_16 : decode cX1_run 16 = .ok (.iconst 1, 1) := by decide +kernel
theorem dX1_run_17 : decode cX1_run 17 = .ok (.putfield 41, 3) := by decide +kernel
theorem dX1_run_20 : decode cX1_run 20 = .ok (.aload_n 0, 1) := by decide +kernel
theorem dX1_run_21 : decode cX1_run 21 = .ok (.getfield 41, 3) := by decide +kernel
theorem dX1_run_24 : decode cX1_run 24 = .ok (.ifCond .le 5, 3) := by decide +kernel
theorem dX1_run_27 : decode cX1_run 27 = .ok (.iconst 0, 1) := by decide +kernel
theorem dX1_run_28 : decode cX1_run 28 = .ok (.ireturn, 1) := by decide +kernel
theorem dX1_run_29 : decode cX1_run 29 = .ok (.aload_n 0, 1) := by decide +kernel
theorem dX1_run_30 : decode cX1_run 30 = .ok (.iload_n 1, 1) := by decide +kernel
theorem dX1_run_31 : decode cX1_run 31 = .ok (.putfield 58, 3) := by decide +kernel
theorem dX1_run_34 : decode cX1_run 34 = .ok (.aload_n 0, 1) := by decide +kernel
theorem dX1_run_35 : decode cX1_run 35 = .ok (.getfield 58, 3) := by decide +kernel
theorem dX1_run_38 : decode cX1_run 38 = .ok (.aload_n 0, 1) := by decide +kernel
theorem dX1_run_39 : decode cX1_run 39 = .ok (.getfield 25, 3) := by decide +kernel
theorem dX1_run_42 : decode cX1_run 42 = .ok (.if_icmp .le 7, 3) := by decide +kernel
theorem dX1_run_45 : decode cX1_run 45 = .ok (.iconst 1, 1) := by decide +kernel
theorem dX1_run_46 : decode cX1_run 46 = .ok (.goto 4, 3) := by decide +kernel
theorem dX1_run_49 : decode cX1_run 49 = .ok (.iconst 0, 1) := by decide +kernel
theorem dX1_run_50 : decode cX1_run 50 = .ok (.ireturn, 1) := by decide +kernel
set_option maxRecDepth 20000 in
theorem ggX1_limit_X1_isIn : GoodIn wsX1_limit wsX1_isIn := goodIn_r _ [6] (by decide +kernel) (by decide +kernel)
set_option maxRecDepth 20000 in
theorem gX1_limit_X1_isIn : GoodIn wsX1_limit (va_wsS RX1 47 yX1_isIn wsX1_isIn) := goodIn_app (goodIn_of _ (by decide +kernel)) ggX1_limit_X1_isIn
theorem dX1_limit_0 : decode cX1_limit 0 = .ok (.aload_n 0, 1) := by decide +kernel
theorem dX1_limit_1 : decode cX1_limit 1 = .ok (.iload_n 1, 1) := by decide +kernel
theorem dX1_limit_2 : decode cX1_limit 2 = .ok (.iconst 0, 1) := by decide +kernel
theorem dX1_limit_3 : decode cX1_limit 3 = .ok (.sipush 1000, 3) := by decide +kernel
theorem dX1_limit_6 : decode cX1_limit 6 = .ok (.invokestatic 47, 3) := by decide +kernel
theorem dX1_limit_9 : decode cX1_limit 9 = .ok (.ifCond .eq 7, 3) := by decide +kernel
theorem dX1_limit_12 : decode cX1_limit 12 = .ok (.iconst 0, 1) := by decide +kernel
theorem dX1_limit_13 : decode cX1_limit 13 = .ok (.goto 4, 3) := by decide +kernel
theorem dX1_limit_16 : decode cX1_limit 16 = .ok (.iconst 1, 1) := by decide +kernel
theorem dX1_limit_17 : decode cX1_limit 17 = .ok (.putfield 41, 3) := by decide +kernel
theorem dX1_limit_20 : decode cX1_limit 20 = .ok (.aload_n 0, 1) := by decide +kernel
theorem dX1_limit_21 : decode cX1_limit 21 = .ok (.getfield 41, 3) := by decide +kernel
theorem dX1_limit_24 : decode cX1_limit 24 = .ok (.ifCond .le 5, 3) := by decide +kernel
theorem dX1_limit_27 : decode cX1_limit 27 = .ok (.iconst 0, 1) := by decide +kernel
theorem dX1_limit_28 : decode cX1_limit 28 = .ok (.ireturn, 1) := by decide +kernel
theorem dX1_limit_29 : decode cX1_limit 29 = .ok (.aload_n 0, 1) := by decide +kernel
theorem dX1_limit_30 : decode cX1_limit 30 = .ok (.getfield 25, 3) := by decide +kernel
theorem dX1_limit_33 : decode cX1_limit 33 = .ok (.istore_n 2, 1) := by decide +kernel
theorem dX1_limit_34 : decode cX1_limit 34 = .ok (.aload_n 0, 1) := by decide +kernel
theorem dX1_limit_35 : decode cX1_limit 35 = .ok (.iload_n 1, 1) := by decide +kernel
theorem dX1_limit_36 : decode cX1_limit 36 = .ok (.putfield 25, 3) := by decide +kernel
theorem dX1_limit_39 : decode cX1_limit 39 = .ok (.iload_n 2, 1) := by decide +kernel
theorem dX1_limit_40 : decode cX1_limit 40 = .ok (.ireturn, 1) := by decide +kernel
set_option maxRecDepth 20000 in
theorem ggX1_sell_X1_isIn : GoodIn wsX1_sell wsX1_isIn := goodIn_r _ [8] (by decide +kernel) (by decide +kernel)
set_option maxRecDepth 20000 in
theorem gX1_sell_X1_isIn : GoodIn wsX1_sell (va_wsS RX1 47 yX1_isIn wsX1_isIn) := goodIn_app (goodIn_of _ (by decide +kernel)) ggX1_sell_X1_isIn
theorem dX1_sell_0 : decode cX1_sell 0 = .ok (.iload_n 1, 1) := by decide +kernel
theorem dX1_sell_1 : decode cX1_sell 1 = .ok (.aload_n 0, 1) := by decide +kernel
theorem dX1_sell_2 : decode cX1_sell 2 = .ok (.getfield 61, 3) := by decide +kernel
theorem dX1_sell_5 : decode cX1_sell 5 = .ok (.aload_n 0, 1) := by decide +kernel
theorem dX1_sell_6 : decode cX1_sell 6 = .ok (.getfield 61, 3) := by decide +kernel
theorem dX1_sell_9 : decode cX1_sell 9 = .ok (.bipush 47, 2) := by decide +kernel
theorem dX1_sell_11 : decode cX1_sell 11 = .ok (.iadd, 1) := by decide +kernel
theorem dX1_sell_12 : decode cX1_sell 12 = .ok (.invokestatic 47, 3) := by decide +kernel
theorem dX1_sell_15 : decode cX1_sell 15 = .ok (.istore 4, 2) := by decide +kernel
theorem dX1_sell_17 : decode cX1_sell 17 = .ok (.iload_n 2, 1) := by decide +kernel
theorem dX1_sell_18 : decode cX1_sell 18 = .ok (.iconst 1, 1) := by decide +kernel
theorem dX1_sell_19 : decode cX1_sell 19 = .ok (.sipush 500, 3) := by decide +kernel
theorem dX1_sell_22 : decode cX1_sell 22 = .ok (.invokestatic 47, 3) := by decide +kernel
theorem dX1_sell_25 : decode cX1_sell 25 = .ok (.ifCond .eq 18, 3) := by decide +kernel
theorem dX1_sell_28 : decode cX1_sell 28 = .ok (.iload_n 3, 1) := by decide +kernel
theorem dX1_sell_29 : decode cX1_sell 29 = .ok (.iconst 1, 1) := by decide +kernel
theorem dX1_sell_30 : decode cX1_sell 30 = .ok (.sipush 200, 3) := by decide +kernel
theorem dX1_sell_33 : decode cX1_sell 33 = .ok (.invokestatic 47, 3) := by decide +kernel
theorem dX1_sell_36 : decode cX1_sell 36 = .ok (.ifCond .eq 7, 3) := by decide +kernel
theorem dX1_sell_39 : decode cX1_sell 39 = .ok (.iconst 1, 1) := by decide +kernel
theorem dX1_sell_40 : decode cX1_sell 40 = .ok (.goto 4, 3) := by decide +kernel
theorem dX1_sell_43 : decode cX1_sell 43 = .ok (.iconst 0, 1) := by decide +kernel
theorem dX1_sell_44 : decode cX1_sell 44 = .ok (.istore 5, 2) := by decide +kernel
theorem dX1_sell_46 : decode cX1_sell 46 = .ok (.aload_n 0, 1) := by decide +kernel
theorem dX1_sell_47 : decode cX1_sell 47 = .ok (.iload 4, 2) := by decide +kernel
theorem dX1_sell_49 : decode cX1_sell 49 = .ok (.ifCond .ne 7, 3) := by decide +kernel
theorem dX1_sell_52 : decode cX1_sell 52 = .ok (.iconst 1, 1) := by decide +kernel
theorem dX1_sell_53 : decode cX1_sell 53 = .ok (.goto 31, 3) := by decide +kernel
theorem dX1_sell_56 : decode cX1_sell 56 = .ok (.iload 5, 2) := by decide +kernel
theorem dX1_sell_58 : decode cX1_sell 58 = .ok (.ifCond .ne 7, 3) := by decide +kernel
theorem dX1_sell_61 : decode cX1_sell 61 = .ok (.iconst 2, 1) := by decide +kernel
theorem dX1_sell_62 : decode cX1_sell 62 = .ok (.goto 22, 3) := by decide +kernel
theorem dX1_sell_65 : decode cX1_sell 65 = .ok (.aload_n 0, 1) := by decide +kernel
theorem dX1_sell_66 : decode cX1_sell 66 = .ok (.getfield 29, 3) := by decide +kernel
theorem dX1_sell_69 : decode cX1_sell 69 = .ok (.iload_n 1, 1) := by decide +kernel
theorem dX1_sell_70 : decode cX1_sell 70 = .ok (.iaload, 1) := by decide +kernel
theorem dX1_sell_71 : decode cX1_sell 71 = .ok (.iload_n 2, 1) := by decide +kernel
theorem dX1_sell_72 : decode cX1_sell 72 = .ok (.iadd, 1) := by decide +kernel
theorem dX1_sell_73 : decode cX1_sell 73 = .ok (.sipush 1000, 3) := by decide +kernel
theorem dX1_sell_76 : decode cX1_sell 76 = .ok (.if_icmp .le 7, 3) := by decide +kernel
theorem dX1_sell_79 : decode cX1_sell 79 = .ok (.iconst 3, 1) := by decide +kernel
theorem dX1_sell_80 : decode cX1_sell 80 = .ok (.goto 4, 3) := by decide +kernel
theorem dX1_sell_83 : decode cX1_sell 83 = .ok (.iconst 0, 1) := by decide +kernel
theorem dX1_sell_84 : decode cX1_sell 84 = .ok (.putfield 41, 3) := by decide +kernel
theorem dX1_sell_87 : decode cX1_sell 87 = .ok (.aload_n 0, 1) := by decide +kernel
theorem dX1_sell_88 : decode cX1_sell 88 = .ok (.getfield 41, 3) := by decide +kernel
theorem dX1_sell_91 : decode cX1_sell 91 = .ok (.ifCond .le 5, 3) := by decide +kernel
theorem dX1_sell_94 : decode cX1_sell 94 = .ok (.iconst 0, 1) := by decide +kernel
theorem dX1_sell_95 : decode cX1_sell 95 = .ok (.ireturn, 1) := by decide +kernel
theorem dX1_sell_96 : decode cX1_sell 96 = .ok (.aload_n 0, 1) := by decide +kernel
theorem dX1_sell_97 : decode cX1_sell 97 = .ok (.getfield 29, 3) := by decide +kernel
theorem dX1_sell_100 : decode cX1_sell 100 = .ok (.iload_n 1, 1) := by decide +kernel
theorem dX1_sell_101 : decode cX1_sell 101 = .ok (.dup2, 1) := by decide +kernel
theorem dX1_sell_102 : decode cX1_sell 102 = .ok (.iaload, 1) := by decide +kernel
theorem dX1_sell_103 : decode cX1_sell 103 = .ok (.iload_n 2, 1) := by decide +kernel
theorem dX1_sell_104 : decode cX1_sell 104 = .ok (.iadd, 1) := by decide +kernel
theorem dX1_sell_105 : decode cX1_sell 105 = .ok (.iastore, 1) := by decide +kernel
theorem dX1_sell_106 : decode cX1_sell 106 = .ok (.aload_n 0, 1) := by decide +kernel
theorem dX1_sell_107 : decode cX1_sell 107 = .ok (.dup, 1) := by decide +kernel
theorem dX1_sell_108 : decode cX1_sell 108 = .ok (.getfield 64, 3) := by decide +kernel
theorem dX1_sell_111 : decode cX1_sell 111 = .ok (.iload_n 2, 1) := by decide +kernel
theorem dX1_sell_112 : decode cX1_sell 112 = .ok (.i2f, 1) := by decide +kernel
theorem dX1_sell_113 : decode cX1_sell 113 = .ok (.iload_n 3, 1) := by decide +kernel
theorem dX1_sell_114 : decode cX1_sell 114 = .ok (.i2f, 1) := by decide +kernel
theorem dX1_sell_115 : decode cX1_sell 115 = .ok (.fmul, 1) := by decide +kernel
theorem dX1_sell_116 : decode cX1_sell 116 = .ok (.fadd, 1) := by decide +kernel
theorem dX1_sell_117 : decode cX1_sell 117 = .ok (.putfield 64, 3) := by decide +kernel
theorem dX1_sell_120 : decode cX1_sell 120 = .ok (.aload_n 0, 1) := by decide +kernel
theorem dX1_sell_121 : decode cX1_sell 121 = .ok (.getfield 29, 3) := by decide +kernel
theorem dX1_sell_124 : decode cX1_sell 124 = .ok (.iload_n 1, 1) := by decide +kernel
theorem dX1_sell_125 : decode cX1_sell 125 = .ok (.iaload, 1) := by decide +kernel
theorem dX1_sell_126 : decode cX1_sell 126 = .ok (.ireturn, 1) := by decide +kernel
theorem dX1_makes_0 : decode cX1_makes 0 = .ok (.aload_n 0, 1) := by decide +kernel
theorem dX1_makes_1 : decode cX1_makes 1 = .ok (.getfield 19, 3) := by decide +kernel
theorem dX1_makes_4 : decode cX1_makes 4 = .ok (.iload_n 1, 1) := by decide +kernel
theorem dX1_makes_5 : decode cX1_makes 5 = .ok (.iaload, 1) := by decide +kernel
theorem dX1_makes_6 : decode cX1_makes 6 = .ok (.sipush 1000, 3) := by decide +kernel
theorem dX1_makes_9 : decode cX1_makes 9 = .ok (.if_icmp .eq 28, 3) := by decide +kernel
theorem dX1_makes_12 : decode cX1_makes 12 = .ok (.aload_n 0, 1) := by decide +kernel
theorem dX1_makes_13 : decode cX1_makes 13 = .ok (.getfield 22, 3) := by decide +kernel
theorem dX1_makes_16 : decode cX1_makes 16 = .ok (.iload_n 1, 1) := by decide +kernel
theorem dX1_makes_17 : decode cX1_makes 17 = .ok (.iaload, 1) := by decide +kernel
theorem dX1_makes_18 : decode cX1_makes 18 = .ok (.ifCond .gt 19, 3) := by decide +kernel
theorem dX1_makes_21 : decode cX1_makes 21 = .ok (.aload_n 0, 1) := by decide +kernel
theorem dX1_makes_22 : decode cX1_makes 22 = .ok (.getfield 68, 3) := by decide +kernel
theorem dX1_makes_25 : decode cX1_makes 25 = .ok (.ifCond .gt 12, 3) := by decide +kernel
theorem dX1_makes_28 : decode cX1_makes 28 = .ok (.aload_n 0, 1) := by decide +kernel
theorem dX1_makes_29 : decode cX1_makes 29 = .ok (.getfield 16, 3) := by decide +kernel
theorem dX1_makes_32 : decode cX1_makes 32 = .ok (.iload_n 1, 1) := by decide +kernel
theorem dX1_makes_33 : decode cX1_makes 33 = .ok (.iaload, 1) := by decide +kernel
theorem dX1_makes_34 : decode cX1_makes 34 = .ok (.ifCond .ne 5, 3) := by decide +kernel
theorem dX1_makes_37 : decode cX1_makes 37 = .ok (.iconst 0, 1) := by decide +kernel
theorem dX1_makes_38 : decode cX1_makes 38 = .ok (.ireturn, 1) := by decide +kernel
theorem dX1_makes_39 : decode cX1_makes 39 = .ok (.iload_n 2, 1) := by decide +kernel
theorem dX1_makes_40 : decode cX1_makes 40 = .ok (.aload_n 0, 1) := by decide +kernel
theorem dX1_makes_41 : decode cX1_makes 41 = .ok (.getfield 16, 3) := by decide +kernel
theorem dX1_makes_44 : decode cX1_makes 44 = .ok (.iload_n 1, 1) := by decide +kernel
theorem dX1_makes_45 : decode cX1_makes 45 = .ok (.iaload, 1) := by decide +kernel
theorem dX1_makes_46 : decode cX1_makes 46 = .ok (.imul, 1) := by decide +kernel
theorem dX1_makes_47 : decode cX1_makes 47 = .ok (.sipush 1000, 3) := by decide +kernel
theorem dX1_makes_50 : decode cX1_makes 50 = .ok (.aload_n 0, 1) := by decide +kernel
theorem dX1_makes_51 : decode cX1_makes 51 = .ok (.getfield 19, 3) := by decide +kernel
theorem dX1_makes_54 : decode cX1_makes 54 = .ok (.iload_n 1, 1) := by decide +kernel
theorem dX1_makes_55 : decode cX1_makes 55 = .ok (.iaload, 1) := by decide +kernel
theorem dX1_makes_56 : decode cX1_makes 56 = .ok (.isub, 1) := by decide +kernel
theorem dX1_makes_57 : decode cX1_makes 57 = .ok (.imul, 1) := by decide +kernel
theorem dX1_makes_58 : decode cX1_makes 58 = .ok (.sipush 8000, 3) := by decide +kernel
theorem dX1_makes_61 : decode cX1_makes 61 = .ok (.idiv, 1) := by decide +kernel
theorem dX1_makes_62 : decode cX1_makes 62 = .ok (.istore_n 3, 1) := by decide +kernel
theorem dX1_makes_63 : decode cX1_makes 63 = .ok (.aload_n 0, 1) := by decide +kernel
theorem dX1_makes_64 : decode cX1_makes 64 = .ok (.getfield 19, 3) := by decide +kernel
theorem dX1_makes_67 : decode cX1_makes 67 = .ok (.iload_n 1, 1) := by decide +kernel
theorem dX1_makes_68 : decode cX1_makes 68 = .ok (.iaload, 1) := by decide +kernel
theorem dX1_makes_69 : decode cX1_makes 69 = .ok (.aload_n 0, 1) := by decide +kernel
theorem dX1_makes_70 : decode cX1_makes 70 = .ok (.getfield 16, 3) := by decide +kernel
theorem dX1_makes_73 : decode cX1_makes 73 = .ok (.iload_n 1, 1) := by decide +kernel
theorem dX1_makes_74 : decode cX1_makes 74 = .ok (.iaload, 1) := by decide +kernel
theorem dX1_makes_75 : decode cX1_makes 75 = .ok (.iadd, 1) := by decide +kernel
theorem dX1_makes_76 : decode cX1_makes 76 = .ok (.iload_n 2, 1) := by decide +kernel
theorem dX1_makes_77 : decode cX1_makes 77 = .ok (.bipush 60, 2) := by decide +kernel
theorem dX1_makes_79 : decode cX1_makes 79 = .ok (.if_icmp .le 7, 3) := by decide +kernel
theorem dX1_makes_82 : decode cX1_makes 82 = .ok (.iconst 2, 1) := by decide +kernel
theorem dX1_makes_83 : decode cX1_makes 83 = .ok (.goto 4, 3) := by decide +kernel
theorem dX1_makes_86 : decode cX1_makes 86 = .ok (.iconst 0, 1) := by decide +kernel
theorem dX1_makes_87 : decode cX1_makes 87 = .ok (.iadd, 1) := by decide +kernel
theorem dX1_makes_88 : decode cX1_makes 88 = .ok (.istore 4, 2) := by decide +kernel
theorem dX1_makes_90 : decode cX1_makes 90 = .ok (.aload_n 0, 1) := by decide +kernel
theorem dX1_makes_91 : decode cX1_makes 91 = .ok (.getfield 19, 3) := by decide +kernel
theorem dX1_makes_94 : decode cX1_makes 94 = .ok (.iload_n 1, 1) := by decide +kernel
theorem dX1_makes_95 : decode cX1_makes 95 = .ok (.iload 4, 2) := by decide +kernel
theorem dX1_makes_97 : decode cX1_makes 97 = .ok (.sipush 1000, 3) := by decide +kernel
theorem dX1_makes_100 : decode cX1_makes 100 = .ok (.if_icmp .le 9, 3) := by decide +kernel
theorem dX1_makes_103 : decode cX1_makes 103 = .ok (.sipush 1000, 3) := by decide +kernel
theorem dX1_makes_106 : decode cX1_makes 106 = .ok (.goto 5, 3) := by decide +kernel
theorem dX1_makes_109 : decode cX1_makes 109 = .ok (.iload 4, 2) := by decide +kernel
theorem dX1_makes_111 : decode cX1_makes 111 = .ok (.iastore, 1) := by decide +kernel
theorem dX1_makes_112 : decode cX1_makes 112 = .ok (.iload_n 3, 1) := by decide +kernel
theorem dX1_makes_113 : decode cX1_makes 113 = .ok (.ireturn, 1) := by decide +kernel
set_option maxRecDepth 20000 in
theorem ggX1_goes_X1_makes : GoodIn wsX1_goes wsX1_makes := goodIn_r _ [20, 21, 8, 6, 22, 23, 24, 25, 26, 27, 28, 29, 30, 31, 32, 33, 34, 35, 36, 37, 38, 39] (by decide +kernel) (by decide +kernel)
set_option maxRecDepth 20000 in
theorem gX1_goes_X1_makes : GoodIn wsX1_goes (wsV RX1 71 RX1 yX1_makes wsX1_makes) := goodIn_app (goodIn_of _ (by decide +kernel)) ggX1_goes_X1_makes
theorem dX1_goes_0 : decode cX1_goes 0 = .ok (.aload_n 0, 1) := by decide +kernel
theorem dX1_goes_1 : decode cX1_goes 1 = .ok (.getfield 7, 3) := by decide +kernel
theorem dX1_goes_4 : decode cX1_goes 4 = .ok (.aload_n 0, 1) := by decide +kernel
theorem dX1_goes_5 : decode cX1_goes 5 = .ok (.getfield 61, 3) := by decide +kernel
theorem dX1_goes_8 : decode cX1_goes 8 = .ok (.bipush 24, 2) := by decide +kernel
theorem dX1_goes_10 : decode cX1_goes 10 = .ok (.irem, 1) := by decide +kernel
theorem dX1_goes_11 : decode cX1_goes 11 = .ok (.iaload, 1) := by decide +kernel
theorem dX1_goes_12 : decode cX1_goes 12 = .ok (.aload_n 0, 1) := by decide +kernel
theorem dX1_goes_13 : decode cX1_goes 13 = .ok (.getfield 51, 3) := by decide +kernel
theorem dX1_goes_16 : decode cX1_goes 16 = .ok (.iadd, 1) := by decide +kernel
theorem dX1_goes_17 : decode cX1_goes 17 = .ok (.istore_n 1, 1) := by decide +kernel
theorem dX1_goes_18 : decode cX1_goes 18 = .ok (.iload_n 1, 1) := by decide +kernel
theorem dX1_goes_19 : decode cX1_goes 19 = .ok (.ifCond .ge 8, 3) := by decide +kernel
theorem dX1_goes_22 : decode cX1_goes 22 = .ok (.iload_n 1, 1) := by decide +kernel
theorem dX1_goes_23 : decode cX1_goes 23 = .ok (.ineg, 1) := by decide +kernel
theorem dX1_goes_24 : decode cX1_goes 24 = .ok (.goto 4, 3) := by decide +kernel
theorem dX1_goes_27 : decode cX1_goes 27 = .ok (.iload_n 1, 1) := by decide +kernel
theorem dX1_goes_28 : decode cX1_goes 28 = .ok (.istore_n 2, 1) := by decide +kernel
theorem dX1_goes_29 : decode cX1_goes 29 = .ok (.aload_n 0, 1) := by decide +kernel
theorem dX1_goes_30 : decode cX1_goes 30 = .ok (.aload_n 0, 1) := by decide +kernel
theorem dX1_goes_31 : decode cX1_goes 31 = .ok (.getfield 58, 3) := by decide +kernel
theorem dX1_goes_34 : decode cX1_goes 34 = .ok (.aload_n 0, 1) := by decide +kernel
theorem dX1_goes_35 : decode cX1_goes 35 = .ok (.getfield 25, 3) := by decide +kernel
theorem dX1_goes_38 : decode cX1_goes 38 = .ok (.if_icmp .le 7, 3) := by decide +kernel
theorem dX1_goes_41 : decode cX1_goes 41 = .ok (.iconst 3, 1) := by decide +kernel
theorem dX1_goes_42 : decode cX1_goes 42 = .ok (.goto 7, 3) := by decide +kernel
theorem dX1_goes_45 : decode cX1_goes 45 = .ok (.aload_n 0, 1) := by decide +kernel
theorem dX1_goes_46 : decode cX1_goes 46 = .ok (.getfield 68, 3) := by decide +kernel
theorem dX1_goes_49 : decode cX1_goes 49 = .ok (.putfield 68, 3) := by decide +kernel
theorem dX1_goes_52 : decode cX1_goes 52 = .ok (.aload_n 0, 1) := by decide +kernel
theorem dX1_goes_53 : decode cX1_goes 53 = .ok (.iconst 0, 1) := by decide +kernel
theorem dX1_goes_54 : decode cX1_goes 54 = .ok (.putfield 58, 3) := by decide +kernel
theorem dX1_goes_57 : decode cX1_goes 57 = .ok (.iconst 0, 1) := by decide +kernel
theorem dX1_goes_58 : decode cX1_goes 58 = .ok (.istore_n 3, 1) := by decide +kernel
theorem dX1_goes_59 : decode cX1_goes 59 = .ok (.iconst 0, 1) := by decide +kernel
theorem dX1_goes_60 : decode cX1_goes 60 = .ok (.istore 4, 2) := by decide +kernel
theorem dX1_goes_62 : decode cX1_goes 62 = .ok (.iload 4, 2) := by decide +kernel
theorem dX1_goes_64 : decode cX1_goes 64 = .ok (.aload_n 0, 1) := by decide +kernel
theorem dX1_goes_65 : decode cX1_goes 65 = .ok (.getfield 44, 3) := by decide +kernel
theorem dX1_goes_68 : decode cX1_goes 68 = .ok (.if_icmp .ge 44, 3) := by decide +kernel
theorem dX1_goes_71 : decode cX1_goes 71 = .ok (.iload_n 3, 1) := by decide +kernel
theorem dX1_goes_72 : decode cX1_goes 72 = .ok (.aload_n 0, 1) := by decide +kernel
theorem dX1_goes_73 : decode cX1_goes 73 = .ok (.iload 4, 2) := by decide +kernel
theorem dX1_goes_75 : decode cX1_goes 75 = .ok (.iload_n 2, 1) := by decide +kernel
theorem dX1_goes_76 : decode cX1_goes 76 = .ok (.invokevirtual 71, 3) := by decide +kernel
theorem dX1_goes_79 : decode cX1_goes 79 = .ok (.iadd, 1) := by decide +kernel
theorem dX1_goes_80 : decode cX1_goes 80 = .ok (.istore_n 3, 1) := by decide +kernel
theorem dX1_goes_81 : decode cX1_goes 81 = .ok (.aload_n 0, 1) := by decide +kernel
theorem dX1_goes_82 : decode cX1_goes 82 = .ok (.getfield 22, 3) := by decide +kernel
theorem dX1_goes_85 : decode cX1_goes 85 = .ok (.iload 4, 2) := by decide +kernel
theorem dX1_goes_87 : decode cX1_goes 87 = .ok (.dup2, 1) := by decide +kernel
theorem dX1_goes_88 : decode cX1_goes 88 = .ok (.iaload, 1) := by decide +kernel
theorem dX1_goes_89 : decode cX1_goes 89 = .ok (.aload_n 0, 1) := by decide +kernel
theorem dX1_goes_90 : decode cX1_goes 90 = .ok (.getfield 22, 3) := by decide +kernel
theorem dX1_goes_93 : decode cX1_goes 93 = .ok (.iload 4, 2) := by decide +kernel
theorem dX1_goes_95 : decode cX1_goes 95 = .ok (.iaload, 1) := by decide +kernel
theorem dX1_goes_96 : decode cX1_goes 96 = .ok (.ifCond .le 7, 3) := by decide +kernel
theorem dX1_goes_99 : decode cX1_goes 99 = .ok (.iconst 1, 1) := by decide +kernel
theorem dX1_goes_100 : decode cX1_goes 100 = .ok (.goto 4, 3) := by decide +kernel
theorem dX1_goes_103 : decode cX1_goes 103 = .ok (.iconst 0, 1) := by decide +kernel
theorem dX1_goes_104 : decode cX1_goes 104 = .ok (.isub, 1) := by decide +kernel
theorem dX1_goes_105 : decode cX1_goes 105 = .ok (.iastore, 1) := by decide +kernel
theorem dX1_goes_106 : decode cX1_goes 106 = .ok (.iinc 4 1, 3) := by decide +kernel
theorem dX1_goes_109 : decode cX1_goes 109 = .ok (.goto (-47), 3) := by decide +kernel
theorem dX1_goes_112 : decode cX1_goes 112 = .ok (.aload_n 0, 1) := by decide +kernel
theorem dX1_goes_113 : decode cX1_goes 113 = .ok (.dup, 1) := by decide +kernel
theorem dX1_goes_114 : decode cX1_goes 114 = .ok (.getfield 68, 3) := by decide +kernel
theorem dX1_goes_117 : decode cX1_goes 117 = .ok (.aload_n 0, 1) := by decide +kernel
theorem dX1_goes_118 : decode cX1_goes 118 = .ok (.getfield 68, 3) := by decide +kernel
theorem dX1_goes_121 : decode cX1_goes 121 = .ok (.ifCond .le 7, 3) := by decide +kernel
theorem dX1_goes_124 : decode cX1_goes 124 = .ok (.iconst 1, 1) := by decide +kernel
theorem dX1_goes_125 : decode cX1_goes 125 = .ok (.goto 4, 3) := by decide +kernel
theorem dX1_goes_128 : decode cX1_goes 128 = .ok (.iconst 0, 1) := by decide +kernel
theorem dX1_goes_129 : decode cX1_goes 129 = .ok (.isub, 1) := by decide +kernel
theorem dX1_goes_130 : decode cX1_goes 130 = .ok (.putfield 68, 3) := by decide +kernel
theorem dX1_goes_133 : decode cX1_goes 133 = .ok (.aload_n 0, 1) := by decide +kernel
theorem dX1_goes_134 : decode cX1_goes 134 = .ok (.getfield 38, 3) := by decide +kernel
theorem dX1_goes_137 : decode cX1_goes 137 = .ok (.aload_n 0, 1) := by decide +kernel
theorem dX1_goes_138 : decode cX1_goes 138 = .ok (.getfield 61, 3) := by decide +kernel
theorem dX1_goes_141 : decode cX1_goes 141 = .ok (.iload_n 2, 1) := by decide +kernel
theorem dX1_goes_142 : decode cX1_goes 142 = .ok (.iastore, 1) := by decide +kernel
theorem dX1_goes_143 : decode cX1_goes 143 = .ok (.aload_n 0, 1) := by decide +kernel
theorem dX1_goes_144 : decode cX1_goes 144 = .ok (.getfield 32, 3) := by decide +kernel
theorem dX1_goes_147 : decode cX1_goes 147 = .ok (.aload_n 0, 1) := by decide +kernel
theorem dX1_goes_148 : decode cX1_goes 148 = .ok (.getfield 61, 3) := by decide +kernel
theorem dX1_goes_151 : decode cX1_goes 151 = .ok (.iload_n 3, 1) := by decide +kernel
theorem dX1_goes_152 : decode cX1_goes 152 = .ok (.iastore, 1) := by decide +kernel
theorem dX1_goes_153 : decode cX1_goes 153 = .ok (.aload_n 0, 1) := by decide +kernel
theorem dX1_goes_154 : decode cX1_goes 154 = .ok (.getfield 13, 3) := by decide +kernel
theorem dX1_goes_157 : decode cX1_goes 157 = .ok (.aload_n 0, 1) := by decide +kernel
theorem dX1_goes_158 : decode cX1_goes 158 = .ok (.getfield 61, 3) := by decide +kernel
theorem dX1_goes_161 : decode cX1_goes 161 = .ok (.bipush 24, 2) := by decide +kernel
theorem dX1_goes_163 : decode cX1_goes 163 = .ok (.irem, 1) := by decide +kernel
theorem dX1_goes_164 : decode cX1_goes 164 = .ok (.iaload, 1) := by decide +kernel
theorem dX1_goes_165 : decode cX1_goes 165 = .ok (.istore 4, 2) := by decide +kernel
theorem dX1_goes_167 : decode cX1_goes 167 = .ok (.iload_n 3, 1) := by decide +kernel
theorem dX1_goes_168 : decode cX1_goes 168 = .ok (.aload_n 0, 1) := by decide +kernel
theorem dX1_goes_169 : decode cX1_goes 169 = .ok (.getfield 29, 3) := by decide +kernel
theorem dX1_goes_172 : decode cX1_goes 172 = .ok (.aload_n 0, 1) := by decide +kernel
theorem dX1_goes_173 : decode cX1_goes 173 = .ok (.getfield 61, 3) := by decide +kernel
theorem dX1_goes_176 : decode cX1_goes 176 = .ok (.iaload, 1) := by decide +kernel
theorem dX1_goes_177 : decode cX1_goes 177 = .ok (.if_icmp .ge 49, 3) := by decide +kernel
theorem dX1_goes_180 : decode cX1_goes 180 = .ok (.aload_n 0, 1) := by decide +kernel
theorem dX1_goes_181 : decode cX1_goes 181 = .ok (.getfield 35, 3) := by decide +kernel
theorem dX1_goes_184 : decode cX1_goes 184 = .ok (.aload_n 0, 1) := by decide +kernel
theorem dX1_goes_185 : decode cX1_goes 185 = .ok (.getfield 61, 3) := by decide +kernel
theorem dX1_goes_188 : decode cX1_goes 188 = .ok (.aload_n 0, 1) := by decide +kernel
theorem dX1_goes_189 : decode cX1_goes 189 = .ok (.getfield 29, 3) := by decide +kernel
theorem dX1_goes_192 : decode cX1_goes 192 = .ok (.aload_n 0, 1) := by decide +kernel
theorem dX1_goes_193 : decode cX1_goes 193 = .ok (.getfield 61, 3) := by decide +kernel
theorem dX1_goes_196 : decode cX1_goes 196 = .ok (.iaload, 1) := by decide +kernel
theorem dX1_goes_197 : decode cX1_goes 197 = .ok (.iload_n 3, 1) := by decide +kernel
theorem dX1_goes_198 : decode cX1_goes 198 = .ok (.isub, 1) := by decide +kernel
theorem dX1_goes_199 : decode cX1_goes 199 = .ok (.iastore, 1) := by decide +kernel
theorem dX1_goes_200 : decode cX1_goes 200 = .ok (.aload_n 0, 1) := by decide +kernel
theorem dX1_goes_201 : decode cX1_goes 201 = .ok (.dup, 1) := by decide +kernel
theorem dX1_goes_202 : decode cX1_goes 202 = .ok (.getfield 64, 3) := by decide +kernel
theorem dX1_goes_205 : decode cX1_goes 205 = .ok (.aload_n 0, 1) := by decide +kernel
theorem dX1_goes_206 : decode cX1_goes 206 = .ok (.getfield 35, 3) := by decide +kernel
theorem dX1_goes_209 : decode cX1_goes 209 = .ok (.aload_n 0, 1) := by decide +kernel
theorem dX1_goes_210 : decode cX1_goes 210 = .ok (.getfield 61, 3) := by decide +kernel
theorem dX1_goes_213 : decode cX1_goes 213 = .ok (.iaload, 1) := by decide +kernel
theorem dX1_goes_214 : decode cX1_goes 214 = .ok (.i2f, 1) := by decide +kernel
theorem dX1_goes_215 : decode cX1_goes 215 = .ok (.iload 4, 2) := by decide +kernel
theorem dX1_goes_217 : decode cX1_goes 217 = .ok (.i2f, 1) := by decide +kernel
theorem dX1_goes_218 : decode cX1_goes 218 = .ok (.fmul, 1) := by decide +kernel
theorem dX1_goes_219 : decode cX1_goes 219 = .ok (.fsub, 1) := by decide +kernel
theorem dX1_goes_220 : decode cX1_goes 220 = .ok (.putfield 64, 3) := by decide +kernel
theorem dX1_goes_223 : decode cX1_goes 223 = .ok (.goto 44, 3) := by decide +kernel
theorem dX1_goes_226 : decode cX1_goes 226 = .ok (.iload_n 3, 1) := by decide +kernel
theorem dX1_goes_227 : decode cX1_goes 227 = .ok (.aload_n 0, 1) := by decide +kernel
theorem dX1_goes_228 : decode cX1_goes 228 = .ok (.getfield 29, 3) := by decide +kernel
theorem dX1_goes_231 : decode cX1_goes 231 = .ok (.aload_n 0, 1) := by decide +kernel
theorem dX1_goes_232 : decode cX1_goes 232 = .ok (.getfield 61, 3) := by decide +kernel
theorem dX1_goes_235 : decode cX1_goes 235 = .ok (.iaload, 1) := by decide +kernel
theorem dX1_goes_236 : decode cX1_goes 236 = .ok (.if_icmp .le 31, 3) := by decide +kernel
theorem dX1_goes_239 : decode cX1_goes 239 = .ok (.aload_n 0, 1) := by decide +kernel
theorem dX1_goes_240 : decode cX1_goes 240 = .ok (.dup, 1) := by decide +kernel
theorem dX1_goes_241 : decode cX1_goes 241 = .ok (.getfield 64, 3) := by decide +kernel
theorem dX1_goes_244 : decode cX1_goes 244 = .ok (.iload_n 3, 1) := by decide +kernel
theorem dX1_goes_245 : decode cX1_goes 245 = .ok (.aload_n 0, 1) := by decide +kernel
theorem dX1_goes_246 : decode cX1_goes 246 = .ok (.getfield 29, 3) := by decide +kernel
theorem dX1_goes_249 : decode cX1_goes 249 = .ok (.aload_n 0, 1) := by decide +kernel
theorem dX1_goes_250 : decode cX1_goes 250 = .ok (.getfield 61, 3) := by decide +kernel
theorem dX1_goes_253 : decode cX1_goes 253 = .ok (.iaload, 1) := by decide +kernel
theorem dX1_goes_254 : decode cX1_goes 254 = .ok (.isub, 1) := by decide +kernel
theorem dX1_goes_255 : decode cX1_goes 255 = .ok (.i2f, 1) := by decide +kernel
theorem dX1_goes_256 : decode cX1_goes 256 = .ok (.iload 4, 2) := by decide +kernel
theorem dX1_goes_258 : decode cX1_goes 258 = .ok (.i2f, 1) := by decide +kernel
theorem dX1_goes_259 : decode cX1_goes 259 = .ok (.fmul, 1) := by decide +kernel
theorem dX1_goes_260 : decode cX1_goes 260 = .ok (.ldc 75, 2) := by decide +kernel
theorem dX1_goes_262 : decode cX1_goes 262 = .ok (.fmul, 1) := by decide +kernel
theorem dX1_goes_263 : decode cX1_goes 263 = .ok (.fadd, 1) := by decide +kernel
theorem dX1_goes_264 : decode cX1_goes 264 = .ok (.putfield 64, 3) := by decide +kernel
theorem dX1_goes_267 : decode cX1_goes 267 = .ok (.aload_n 0, 1) := by decide +kernel
theorem dX1_goes_268 : decode cX1_goes 268 = .ok (.dup, 1) := by decide +kernel
theorem dX1_goes_269 : decode cX1_goes 269 = .ok (.getfield 61, 3) := by decide +kernel
theorem dX1_goes_272 : decode cX1_goes 272 = .ok (.iconst 1, 1) := by decide +kernel
theorem dX1_goes_273 : decode cX1_goes 273 = .ok (.iadd, 1) := by decide +kernel
theorem dX1_goes_274 : decode cX1_goes 274 = .ok (.putfield 61, 3) := by decide +kernel
theorem dX1_goes_277 : decode cX1_goes 277 = .ok (.return_, 1) := by decide +kernel
set_option maxRecDepth 20000 in
theorem ggX1_pass_X1_isIn : GoodIn wsX1_pass wsX1_isIn := goodIn_r _ [6] (by decide +kernel) (by decide +kernel)
set_option maxRecDepth 20000 in
theorem gX1_pass_X1_isIn : GoodIn wsX1_pass (va_wsS RX1 47 yX1_isIn wsX1_isIn) := goodIn_app (goodIn_of _ (by decide +kernel)) ggX1_pass_X1_isIn
set_option maxRecDepth 20000 in
theorem ggX1_pass_X1_goes : GoodIn wsX1_pass wsX1_goes := goodIn_r _ [10, 11, 1, 12, 13, 14, 15, 16, 17, 18, 19, 20, 21, 22, 23, 24, 25, 26, 27, 5, 28, 29, 30, 31, 32, 33, 34, 35, 36, 37, 38, 39, 40, 41, 42, 43, 44, 45, 46, 47] (by decide +kernel) (by decide +kernel)
set_option maxRecDepth 20000 in
theorem gX1_pass_X1_goes : GoodIn wsX1_pass (wsV RX1 76 RX1 yX1_goes wsX1_goes) := goodIn_app (goodIn_of _ (by decide +kernel)) ggX1_pass_X1_goes
theorem dX1_pass_0 : decode cX1_pass 0 = .ok (.aload_n 0, 1) := by decide +kernel
theorem dX1_pass_1 : decode cX1_pass 1 = .ok (.iload_n 1, 1) := by decide +kernel
theorem dX1_pass_2 : decode cX1_pass 2 = .ok (.iconst 1, 1) := by decide +kernel
theorem dX1_pass_3 : decode cX1_pass 3 = .ok (.bipush 48, 2) := by decide +kernel
theorem dX1_pass_5 : decode cX1_pass 5 = .ok (.invokestatic 47, 3) := by decide +kernel
theorem dX1_pass_8 : decode cX1_pass 8 = .ok (.ifCond .ne 7, 3) := by decide +kernel
theorem dX1_pass_11 : decode cX1_pass 11 = .ok (.iconst 1, 1) := by decide +kernel
theorem dX1_pass_12 : decode cX1_pass 12 = .ok (.goto 20, 3) := by decide +kernel
theorem dX1_pass_15 : decode cX1_pass 15 = .ok (.aload_n 0, 1) := by decide +kernel
theorem dX1_pass_16 : decode cX1_pass 16 = .ok (.getfield 61, 3) := by decide +kernel
theorem dX1_pass_19 : decode cX1_pass 19 = .ok (.iload_n 1, 1) := by decide +kernel
theorem dX1_pass_20 : decode cX1_pass 20 = .ok (.iadd, 1) := by decide +kernel
theorem dX1_pass_21 : decode cX1_pass 21 = .ok (.sipush 500, 3) := by decide +kernel
theorem dX1_pass_24 : decode cX1_pass 24 = .ok (.if_icmp .le 7, 3) := by decide +kernel
theorem dX1_pass_27 : decode cX1_pass 27 = .ok (.iconst 2, 1) := by decide +kernel
theorem dX1_pass_28 : decode cX1_pass 28 = .ok (.goto 4, 3) := by decide +kernel
theorem dX1_pass_31 : decode cX1_pass 31 = .ok (.iconst 0, 1) := by decide +kernel
theorem dX1_pass_32 : decode cX1_pass 32 = .ok (.putfield 41, 3) := by decide +kernel
theorem dX1_pass_35 : decode cX1_pass 35 = .ok (.aload_n 0, 1) := by decide +kernel
theorem dX1_pass_36 : decode cX1_pass 36 = .ok (.getfield 41, 3) := by decide +kernel
theorem dX1_pass_39 : decode cX1_pass 39 = .ok (.ifCond .le 5, 3) := by decide +kernel
theorem dX1_pass_42 : decode cX1_pass 42 = .ok (.iconst 0, 1) := by decide +kernel
theorem dX1_pass_43 : decode cX1_pass 43 = .ok (.ireturn, 1) := by decide +kernel
theorem dX1_pass_44 : decode cX1_pass 44 = .ok (.iconst 0, 1) := by decide +kernel
theorem dX1_pass_45 : decode cX1_pass 45 = .ok (.istore_n 2, 1) := by decide +kernel
theorem dX1_pass_46 : decode cX1_pass 46 = .ok (.iload_n 2, 1) := by decide +kernel
theorem dX1_pass_47 : decode cX1_pass 47 = .ok (.iload_n 1, 1) := by decide +kernel
theorem dX1_pass_48 : decode cX1_pass 48 = .ok (.if_icmp .ge 13, 3) := by decide +kernel
theorem dX1_pass_51 : decode cX1_pass 51 = .ok (.aload_n 0, 1) := by decide +kernel
theorem dX1_pass_52 : decode cX1_pass 52 = .ok (.invokevirtual 76, 3) := by decide +kernel
theorem dX1_pass_55 : decode cX1_pass 55 = .ok (.iinc 2 1, 3) := by decide +kernel
theorem dX1_pass_58 : decode cX1_pass 58 = .ok (.goto (-12), 3) := by decide +kernel
theorem dX1_pass_61 : decode cX1_pass 61 = .ok (.aload_n 0, 1) := by decide +kernel
theorem dX1_pass_62 : decode cX1_pass 62 = .ok (.getfield 61, 3) := by decide +kernel
theorem dX1_pass_65 : decode cX1_pass 65 = .ok (.ireturn, 1) := by decide +kernel
theorem dX1_now_0 : decode cX1_now 0 = .ok (.aload_n 0, 1) := by decide +kernel
theorem dX1_now_1 : decode cX1_now 1 = .ok (.iconst 0, 1) := by decide +kernel
theorem dX1_now_2 : decode cX1_now 2 = .ok (.putfield 41, 3) := by decide +kernel
theorem dX1_now_5 : decode cX1_now 5 = .ok (.aload_n 0, 1) := by decide +kernel
theorem dX1_now_6 : decode cX1_now 6 = .ok (.getfield 61, 3) := by decide +kernel
theorem dX1_now_9 : decode cX1_now 9 = .ok (.ireturn, 1) := by decide +kernel
set_option maxRecDepth 20000 in
theorem ggX1_isGone_X1_isIn : GoodIn wsX1_isGone wsX1_isIn := goodIn_r _ [5] (by decide +kernel) (by decide +kernel)
set_option maxRecDepth 20000 in
theorem gX1_isGone_X1_isIn : GoodIn wsX1_isGone (va_wsS RX1 47 yX1_isIn wsX1_isIn) := goodIn_app (goodIn_of _ (by decide +kernel)) ggX1_isGone_X1_isIn
theorem dX1_isGone_0 : decode cX1_isGone 0 = .ok (.iload_n 1, 1) := by decide +kernel
theorem dX1_isGone_1 : decode cX1_isGone 1 = .ok (.iconst 0, 1) := by decide +kernel
theorem dX1_isGone_2 : decode cX1_isGone 2 = .ok (.aload_n 0, 1) := by decide +kernel
theorem dX1_isGone_3 : decode cX1_isGone 3 = .ok (.getfield 61, 3) := by decide +kernel
theorem dX1_isGone_6 : decode cX1_isGone 6 = .ok (.iconst 1, 1) := by decide +kernel
theorem dX1_isGone_7 : decode cX1_isGone 7 = .ok (.isub, 1) := by decide +kernel
theorem dX1_isGone_8 : decode cX1_isGone 8 = .ok (.invokestatic 47, 3) := by decide +kernel
theorem dX1_isGone_11 : decode cX1_isGone 11 = .ok (.ireturn, 1) := by decide +kernel
set_option maxRecDepth 20000 in
theorem ggX1_made_X1_isGone : GoodIn wsX1_made wsX1_isGone := goodIn_r _ [7, 8, 9, 10, 6, 11, 12, 13, 14, 15, 16, 17, 18, 19, 20, 21, 22, 23, 24, 25, 26, 27, 28] (by decide +kernel) (by decide +kernel)
set_option maxRecDepth 20000 in
theorem gX1_made_X1_isGone : GoodIn wsX1_made (wsV RX1 79 RX1 yX1_isGone wsX1_isGone) := goodIn_app (goodIn_of _ (by decide +kernel)) ggX1_made_X1_isGone
theorem dX1_made_0 : decode cX1_made 0 = .ok (.aload_n 0, 1) := by decide +kernel
theorem dX1_made_1 : decode cX1_made 1 = .ok (.aload_n 0, 1) := by decide +kernel
theorem dX1_made_2 : decode cX1_made 2 = .ok (.iload_n 1, 1) := by decide +kernel
theorem dX1_made_3 : decode cX1_made 3 = .ok (.invokevirtual 79, 3) := by decide +kernel
theorem dX1_made_6 : decode cX1_made 6 = .ok (.ifCond .eq 7, 3) := by decide +kernel
theorem dX1_made_9 : decode cX1_made 9 = .ok (.iconst 0, 1) := by decide +kernel
theorem dX1_made_10 : decode cX1_made 10 = .ok (.goto 4, 3) := by decide +kernel
theorem dX1_made_13 : decode cX1_made 13 = .ok (.iconst 1, 1) := by decide +kernel
theorem dX1_made_14 : decode cX1_made 14 = .ok (.putfield 41, 3) := by decide +kernel
theorem dX1_made_17 : decode cX1_made 17 = .ok (.aload_n 0, 1) := by decide +kernel
theorem dX1_made_18 : decode cX1_made 18 = .ok (.getfield 41, 3) := by decide +kernel
theorem dX1_made_21 : decode cX1_made 21 = .ok (.ifCond .le 7, 3) := by decide +kernel
theorem dX1_made_24 : decode cX1_made 24 = .ok (.iconst 0, 1) := by decide +kernel
theorem dX1_made_25 : decode cX1_made 25 = .ok (.goto 9, 3) := by decide +kernel
theorem dX1_made_28 : decode cX1_made 28 = .ok (.aload_n 0, 1) := by decide +kernel
theorem dX1_made_29 : decode cX1_made 29 = .ok (.getfield 32, 3) := by decide +kernel
theorem dX1_made_32 : decode cX1_made 32 = .ok (.iload_n 1, 1) := by decide +kernel
theorem dX1_made_33 : decode cX1_made 33 = .ok (.iaload, 1) := by decide +kernel
theorem dX1_made_34 : decode cX1_made 34 = .ok (.ireturn, 1) := by decide +kernel
set_option maxRecDepth 20000 in
theorem ggX1_madeAnew_X1_isGone : GoodIn wsX1_madeAnew wsX1_isGone := goodIn_r _ [7, 8, 9, 10, 6, 11, 12, 13, 14, 15, 16, 17, 18, 19, 20, 21, 22, 23, 24, 25, 26, 27, 28] (by decide +kernel) (by decide +kernel)
set_option maxRecDepth 20000 in
theorem gX1_madeAnew_X1_isGone : GoodIn wsX1_madeAnew (wsV RX1 79 RX1 yX1_isGone wsX1_isGone) := goodIn_app (goodIn_of _ (by decide +kernel)) ggX1_madeAnew_X1_isGone
theorem dX1_madeAnew_0 : decode cX1_madeAnew 0 = .ok (.aload_n 0, 1) := by decide +kernel
theorem dX1_madeAnew_1 : decode cX1_madeAnew 1 = .ok (.aload_n 0, 1) := by decide +kernel
theorem dX1_madeAnew_2 : decode cX1_madeAnew 2 = .ok (.iload_n 1, 1) := by decide +kernel
theorem dX1_madeAnew_3 : decode cX1_madeAnew 3 = .ok (.invokevirtual 79, 3) := by decide +kernel
theorem dX1_madeAnew_6 : decode cX1_madeAnew 6 = .ok (.ifCond .eq 7, 3) := by decide +kernel
theorem dX1_madeAnew_9 : decode cX1_madeAnew 9 = .ok (.iconst 0, 1) := by decide +kernel
theorem dX1_madeAnew_10 : decode cX1_madeAnew 10 = .ok (.goto 4, 3) := by decide +kernel
theorem dX1_madeAnew_13 : decode cX1_madeAnew 13 = .ok (.iconst 1, 1) := by decide +kernel
theorem dX1_madeAnew_14 : decode cX1_madeAnew 14 = .ok (.putfield 41, 3) := by decide +kernel
theorem dX1_madeAnew_17 : decode cX1_madeAnew 17 = .ok (.aload_n 0, 1) := by decide +kernel
theorem dX1_madeAnew_18 : decode cX1_madeAnew 18 = .ok (.getfield 41, 3) := by decide +kernel
theorem dX1_madeAnew_21 : decode cX1_madeAnew 21 = .ok (.ifCond .le 7, 3) := by decide +kernel
theorem dX1_madeAnew_24 : decode cX1_madeAnew 24 = .ok (.iconst 0, 1) := by decide +kernel
theorem dX1_madeAnew_25 : decode cX1_madeAnew 25 = .ok (.goto 9, 3) := by decide +kernel
theorem dX1_madeAnew_28 : decode cX1_madeAnew 28 = .ok (.aload_n 0, 1) := by decide +kernel
theorem dX1_madeAnew_29 : decode cX1_madeAnew 29 = .ok (.getfield 32, 3) := by decide +kernel
theorem dX1_madeAnew_32 : decode cX1_madeAnew 32 = .ok (.iload_n 1, 1) := by decide +kernel
theorem dX1_madeAnew_33 : decode cX1_madeAnew 33 = .ok (.iaload, 1) := by decide +kernel
theorem dX1_madeAnew_34 : decode cX1_madeAnew 34 = .ok (.ireturn, 1) := by decide +kernel
set_option maxRecDepth 20000 in
theorem ggX1_sold_X1_isIn : GoodIn wsX1_sold wsX1_isIn := goodIn_r _ [7] (by decide +kernel) (by decide +kernel)
set_option maxRecDepth 20000 in
theorem gX1_sold_X1_isIn : GoodIn wsX1_sold (va_wsS RX1 47 yX1_isIn wsX1_isIn) := goodIn_app (goodIn_of _ (by decide +kernel)) ggX1_sold_X1_isIn
theorem dX1_sold_0 : decode cX1_sold 0 = .ok (.aload_n 0, 1) := by decide +kernel
theorem dX1_sold_1 : decode cX1_sold 1 = .ok (.iload_n 1, 1) := by decide +kernel
theorem dX1_sold_2 : decode cX1_sold 2 = .ok (.iconst 0, 1) := by decide +kernel
theorem dX1_sold_3 : decode cX1_sold 3 = .ok (.aload_n 0, 1) := by decide +kernel
theorem dX1_sold_4 : decode cX1_sold 4 = .ok (.getfield 61, 3) := by decide +kernel
theorem dX1_sold_7 : decode cX1_sold 7 = .ok (.bipush 47, 2) := by decide +kernel
theorem dX1_sold_9 : decode cX1_sold 9 = .ok (.iadd, 1) := by decide +kernel
theorem dX1_sold_10 : decode cX1_sold 10 = .ok (.invokestatic 47, 3) := by decide +kernel
theorem dX1_sold_13 : decode cX1_sold 13 = .ok (.ifCond .eq 7, 3) := by decide +kernel
theorem dX1_sold_16 : decode cX1_sold 16 = .ok (.iconst 0, 1) := by decide +kernel
theorem dX1_sold_17 : decode cX1_sold 17 = .ok (.goto 4, 3) := by decide +kernel
theorem dX1_sold_20 : decode cX1_sold 20 = .ok (.iconst 1, 1) := by decide +kernel
theorem dX1_sold_21 : decode cX1_sold 21 = .ok (.putfield 41, 3) := by decide +kernel
theorem dX1_sold_24 : decode cX1_sold 24 = .ok (.aload_n 0, 1) := by decide +kernel
theorem dX1_sold_25 : decode cX1_sold 25 = .ok (.getfield 41, 3) := by decide +kernel
theorem dX1_sold_28 : decode cX1_sold 28 = .ok (.ifCond .le 7, 3) := by decide +kernel
theorem dX1_sold_31 : decode cX1_sold 31 = .ok (.iconst 0, 1) := by decide +kernel
theorem dX1_sold_32 : decode cX1_sold 32 = .ok (.goto 9, 3) := by decide +kernel
theorem dX1_sold_35 : decode cX1_sold 35 = .ok (.aload_n 0, 1) := by decide +kernel
theorem dX1_sold_36 : decode cX1_sold 36 = .ok (.getfield 29, 3) := by decide +kernel
theorem dX1_sold_39 : decode cX1_sold 39 = .ok (.iload_n 1, 1) := by decide +kernel
theorem dX1_sold_40 : decode cX1_sold 40 = .ok (.iaload, 1) := by decide +kernel
theorem dX1_sold_41 : decode cX1_sold 41 = .ok (.ireturn, 1) := by decide +kernel
set_option maxRecDepth 20000 in
theorem ggX1_bought_X1_isGone : GoodIn wsX1_bought wsX1_isGone := goodIn_r _ [7, 8, 9, 10, 6, 11, 12, 13, 14, 15, 16, 17, 18, 19, 20, 21, 22, 23, 24, 25, 26, 27, 28] (by decide +kernel) (by decide +kernel)
set_option maxRecDepth 20000 in
theorem gX1_bought_X1_isGone : GoodIn wsX1_bought (wsV RX1 79 RX1 yX1_isGone wsX1_isGone) := goodIn_app (goodIn_of _ (by decide +kernel)) ggX1_bought_X1_isGone
theorem dX1_bought_0 : decode cX1_bought 0 = .ok (.aload_n 0, 1) := by decide +kernel
theorem dX1_bought_1 : decode cX1_bought 1 = .ok (.aload_n 0, 1) := by decide +kernel
theorem dX1_bought_2 : decode cX1_bought 2 = .ok (.iload_n 1, 1) := by decide +kernel
theorem dX1_bought_3 : decode cX1_bought 3 = .ok (.invokevirtual 79, 3) := by decide +kernel
theorem dX1_bought_6 : decode cX1_bought 6 = .ok (.ifCond .eq 7, 3) := by decide +kernel
theorem dX1_bought_9 : decode cX1_bought 9 = .ok (.iconst 0, 1) := by decide +kernel
theorem dX1_bought_10 : decode cX1_bought 10 = .ok (.goto 4, 3) := by decide +kernel
theorem dX1_bought_13 : decode cX1_bought 13 = .ok (.iconst 1, 1) := by decide +kernel
theorem dX1_bought_14 : decode cX1_bought 14 = .ok (.putfield 41, 3) := by decide +kernel
theorem dX1_bought_17 : decode cX1_bought 17 = .ok (.aload_n 0, 1) := by decide +kernel
theorem dX1_bought_18 : decode cX1_bought 18 = .ok (.getfield 41, 3) := by decide +kernel
theorem dX1_bought_21 : decode cX1_bought 21 = .ok (.ifCond .le 7, 3) := by decide +kernel
theorem dX1_bought_24 : decode cX1_bought 24 = .ok (.iconst 0, 1) := by decide +kernel
theorem dX1_bought_25 : decode cX1_bought 25 = .ok (.goto 9, 3) := by decide +kernel
theorem dX1_bought_28 : decode cX1_bought 28 = .ok (.aload_n 0, 1) := by decide +kernel
theorem dX1_bought_29 : decode cX1_bought 29 = .ok (.getfield 35, 3) := by decide +kernel
theorem dX1_bought_32 : decode cX1_bought 32 = .ok (.iload_n 1, 1) := by decide +kernel
theorem dX1_bought_33 : decode cX1_bought 33 = .ok (.iaload, 1) := by decide +kernel
theorem dX1_bought_34 : decode cX1_bought 34 = .ok (.ireturn, 1) := by decide +kernel
set_option maxRecDepth 20000 in
theorem ggX1_head_X1_isGone : GoodIn wsX1_head wsX1_isGone := goodIn_r _ [7, 8, 9, 10, 6, 11, 12, 13, 14, 15, 16, 17, 18, 19, 20, 21, 22, 23, 24, 25, 26, 27, 28] (by decide +kernel) (by decide +kernel)
set_option maxRecDepth 20000 in
theorem gX1_head_X1_isGone : GoodIn wsX1_head (wsV RX1 79 RX1 yX1_isGone wsX1_isGone) := goodIn_app (goodIn_of _ (by decide +kernel)) ggX1_head_X1_isGone
theorem dX1_head_0 : decode cX1_head 0 = .ok (.aload_n 0, 1) := by decide +kernel
theorem dX1_head_1 : decode cX1_head 1 = .ok (.aload_n 0, 1) := by decide +kernel
theorem dX1_head_2 : decode cX1_head 2 = .ok (.iload_n 1, 1) := by decide +kernel
theorem dX1_head_3 : decode cX1_head 3 = .ok (.invokevirtual 79, 3) := by decide +kernel
theorem dX1_head_6 : decode cX1_head 6 = .ok (.ifCond .eq 7, 3) := by decide +kernel
theorem dX1_head_9 : decode cX1_head 9 = .ok (.iconst 0, 1) := by decide +kernel
theorem dX1_head_10 : decode cX1_head 10 = .ok (.goto 4, 3) := by decide +kernel
theorem dX1_head_13 : decode cX1_head 13 = .ok (.iconst 1, 1) := by decide +kernel
theorem dX1_head_14 : decode cX1_head 14 = .ok (.putfield 41, 3) := by decide +kernel
theorem dX1_head_17 : decode cX1_head 17 = .ok (.aload_n 0, 1) := by decide +kernel
theorem dX1_head_18 : decode cX1_head 18 = .ok (.getfield 41, 3) := by decide +kernel
theorem dX1_head_21 : decode cX1_head 21 = .ok (.ifCond .le 7, 3) := by decide +kernel
theorem dX1_head_24 : decode cX1_head 24 = .ok (.iconst 0, 1) := by decide +kernel
theorem dX1_head_25 : decode cX1_head 25 = .ok (.goto 9, 3) := by decide +kernel
theorem dX1_head_28 : decode cX1_head 28 = .ok (.aload_n 0, 1) := by decide +kernel
theorem dX1_head_29 : decode cX1_head 29 = .ok (.getfield 38, 3) := by decide +kernel
theorem dX1_head_32 : decode cX1_head 32 = .ok (.iload_n 1, 1) := by decide +kernel
theorem dX1_head_33 : decode cX1_head 33 = .ok (.iaload, 1) := by decide +kernel
theorem dX1_head_34 : decode cX1_head 34 = .ok (.ireturn, 1) := by decide +kernel
set_option maxRecDepth 20000 in
theorem ggX1_about_X1_isTurbine : GoodIn wsX1_about wsX1_isTurbine := goodIn_r _ [9, 10, 11, 12, 8, 13, 14, 15, 16, 17, 18, 19, 20, 21, 22, 23, 24, 25, 26, 27, 28, 29, 30] (by decide +kernel) (by decide +kernel)
set_option maxRecDepth 20000 in
theorem gX1_about_X1_isTurbine : GoodIn wsX1_about (wsV RX1 54 RX1 yX1_isTurbine wsX1_isTurbine) := goodIn_app (goodIn_of _ (by decide +kernel)) ggX1_about_X1_isTurbine
set_option maxRecDepth 20000 in
theorem ggX1_about_X1_isIn : GoodIn wsX1_about wsX1_isIn := goodIn_r _ [13] (by decide +kernel) (by decide +kernel)
set_option maxRecDepth 20000 in
theorem gX1_about_X1_isIn : GoodIn wsX1_about (va_wsS RX1 47 yX1_isIn wsX1_isIn) := goodIn_app (goodIn_of _ (by decide +kernel)) ggX1_about_X1_isIn
theorem dX1_about_0 : decode cX1_about 0 = .ok (.aload_n 0, 1) := by decide +kernel
theorem dX1_about_1 : decode cX1_about 1 = .ok (.aload_n 0, 1) := by decide +kernel
theorem dX1_about_2 : decode cX1_about 2 = .ok (.iload_n 1, 1) := by decide +kernel
theorem dX1_about_3 : decode cX1_about 3 = .ok (.invokevirtual 54, 3) := by decide +kernel
theorem dX1_about_6 : decode cX1_about 6 = .ok (.ifCond .ne 7, 3) := by decide +kernel
theorem dX1_about_9 : decode cX1_about 9 = .ok (.iconst 1, 1) := by decide +kernel
theorem dX1_about_10 : decode cX1_about 10 = .ok (.goto 17, 3) := by decide +kernel
theorem dX1_about_13 : decode cX1_about 13 = .ok (.iload_n 2, 1) := by decide +kernel
theorem dX1_about_14 : decode cX1_about 14 = .ok (.iconst 0, 1) := by decide +kernel
theorem dX1_about_15 : decode cX1_about 15 = .ok (.iconst 2, 1) := by decide +kernel
theorem dX1_about_16 : decode cX1_about 16 = .ok (.invokestatic 47, 3) := by decide +kernel
theorem dX1_about_19 : decode cX1_about 19 = .ok (.ifCond .ne 7, 3) := by decide +kernel
theorem dX1_about_22 : decode cX1_about 22 = .ok (.iconst 2, 1) := by decide +kernel
theorem dX1_about_23 : decode cX1_about 23 = .ok (.goto 4, 3) := by decide +kernel
theorem dX1_about_26 : decode cX1_about 26 = .ok (.iconst 0, 1) := by decide +kernel
theorem dX1_about_27 : decode cX1_about 27 = .ok (.putfield 41, 3) := by decide +kernel
theorem dX1_about_30 : decode cX1_about 30 = .ok (.aload_n 0, 1) := by decide +kernel
theorem dX1_about_31 : decode cX1_about 31 = .ok (.getfield 41, 3) := by decide +kernel
theorem dX1_about_34 : decode cX1_about 34 = .ok (.ifCond .le 7, 3) := by decide +kernel
theorem dX1_about_37 : decode cX1_about 37 = .ok (.iconst 0, 1) := by decide +kernel
theorem dX1_about_38 : decode cX1_about 38 = .ok (.goto 36, 3) := by decide +kernel
theorem dX1_about_41 : decode cX1_about 41 = .ok (.iload_n 2, 1) := by decide +kernel
theorem dX1_about_42 : decode cX1_about 42 = .ok (.ifCond .ne 12, 3) := by decide +kernel
theorem dX1_about_45 : decode cX1_about 45 = .ok (.aload_n 0, 1) := by decide +kernel
theorem dX1_about_46 : decode cX1_about 46 = .ok (.getfield 16, 3) := by decide +kernel
theorem dX1_about_49 : decode cX1_about 49 = .ok (.iload_n 1, 1) := by decide +kernel
theorem dX1_about_50 : decode cX1_about 50 = .ok (.iaload, 1) := by decide +kernel
theorem dX1_about_51 : decode cX1_about 51 = .ok (.goto 23, 3) := by decide +kernel
theorem dX1_about_54 : decode cX1_about 54 = .ok (.iload_n 2, 1) := by decide +kernel
theorem dX1_about_55 : decode cX1_about 55 = .ok (.iconst 1, 1) := by decide +kernel
theorem dX1_about_56 : decode cX1_about 56 = .ok (.if_icmp .ne 12, 3) := by decide +kernel
theorem dX1_about_59 : decode cX1_about 59 = .ok (.aload_n 0, 1) := by decide +kernel
theorem dX1_about_60 : decode cX1_about 60 = .ok (.getfield 19, 3) := by decide +kernel
theorem dX1_about_63 : decode cX1_about 63 = .ok (.iload_n 1, 1) := by decide +kernel
theorem dX1_about_64 : decode cX1_about 64 = .ok (.iaload, 1) := by decide +kernel
theorem dX1_about_65 : decode cX1_about 65 = .ok (.goto 9, 3) := by decide +kernel
theorem dX1_about_68 : decode cX1_about 68 = .ok (.aload_n 0, 1) := by decide +kernel
theorem dX1_about_69 : decode cX1_about 69 = .ok (.getfield 22, 3) := by decide +kernel
theorem dX1_about_72 : decode cX1_about 72 = .ok (.iload_n 1, 1) := by decide +kernel
theorem dX1_about_73 : decode cX1_about 73 = .ok (.iaload, 1) := by decide +kernel
theorem dX1_about_74 : decode cX1_about 74 = .ok (.ireturn, 1) := by decide +kernel
theorem dX1_closed_0 : decode cX1_closed 0 = .ok (.aload_n 0, 1) := by decide +kernel
theorem dX1_closed_1 : decode cX1_closed 1 = .ok (.iconst 0, 1) := by decide +kernel
theorem dX1_closed_2 : decode cX1_closed 2 = .ok (.putfield 41, 3) := by decide +kernel
theorem dX1_closed_5 : decode cX1_closed 5 = .ok (.aload_n 0, 1) := by decide +kernel
theorem dX1_closed_6 : decode cX1_closed 6 = .ok (.getfield 68, 3) := by decide +kernel
theorem dX1_closed_9 : decode cX1_closed 9 = .ok (.ireturn, 1) := by decide +kernel
set_option maxRecDepth 20000 in
theorem ggX1_money_Jxf58ca_floatToIntBits_5c35a : GoodIn wsX1_money wsJxf58ca_floatToIntBits_5c35a := goodIn_r _ [6, 7, 8, 9, 10, 11, 12, 13, 5, 14] (by decide +kernel) (by decide +kernel)
set_option maxRecDepth 20000 in
theorem gX1_money_Jxf58ca_floatToIntBits_5c35a : GoodIn wsX1_money (va_wsS RX1 82 yJxf58ca_floatToIntBits_5c35a wsJxf58ca_floatToIntBits_5c35a) := goodIn_app (goodIn_of _ (by decide +kernel)) ggX1_money_Jxf58ca_floatToIntBits_5c35a
theorem dX1_money_0 : decode cX1_money 0 = .ok (.aload_n 0, 1) := by decide +kernel
theorem dX1_money_1 : decode cX1_money 1 = .ok (.iconst 0, 1) := by decide +kernel
theorem dX1_money_2 : decode cX1_money 2 = .ok (.putfield 41, 3) := by decide +kernel
theorem dX1_money_5 : decode cX1_money 5 = .ok (.aload_n 0, 1) := by decide +kernel
theorem dX1_money_6 : decode cX1_money 6 = .ok (.getfield 64, 3) := by decide +kernel
theorem dX1_money_9 : decode cX1_money 9 = .ok (.invokestatic 82, 3) := by decide +kernel
theorem dX1_money_12 : decode cX1_money 12 = .ok (.ireturn, 1) := by decide +kernel
theorem dJxf58ca_isNaN_12338_0 : decode cJxf58ca_isNaN_12338 0 = .ok (.fload_n 0, 1) := by decide +kernel
theorem dJxf58ca_isNaN_12338_1 : decode cJxf58ca_isNaN_12338 1 = .ok (.fload_n 0, 1) := by decide +kernel
theorem dJxf58ca_isNaN_12338_2 : decode cJxf58ca_isNaN_12338 2 = .ok (.fcmp .l, 1) := by decide +kernel
theorem dJxf58ca_isNaN_12338_3 : decode cJxf58ca_isNaN_12338 3 = .ok (.ifCond .eq 7, 3) := by decide +kernel
theorem dJxf58ca_isNaN_12338_6 : decode cJxf58ca_isNaN_12338 6 = .ok (.iconst 1, 1) := by decide +kernel
theorem dJxf58ca_isNaN_12338_7 : decode cJxf58ca_isNaN_12338 7 = .ok (.goto 4, 3) := by decide +kernel
theorem dJxf58ca_isNaN_12338_10 : decode cJxf58ca_isNaN_12338 10 = .ok (.iconst 0, 1) := by decide +kernel
theorem dJxf58ca_isNaN_12338_11 : decode cJxf58ca_isNaN_12338 11 = .ok (.ireturn, 1) := by decide +kernel
set_option maxRecDepth 20000 in
theorem ggJxf58ca_floatToIntBits_5c35a_Jxf58ca_isNaN_12338 : GoodIn wsJxf58ca_floatToIntBits_5c35a wsJxf58ca_isNaN_12338 := goodIn_r _ [9] (by decide +kernel) (by decide +kernel)
set_option maxRecDepth 20000 in
theorem gJxf58ca_floatToIntBits_5c35a_Jxf58ca_isNaN_12338 : GoodIn wsJxf58ca_floatToIntBits_5c35a (va_wsS RJxf58ca 59 yJxf58ca_isNaN_12338 wsJxf58ca_isNaN_12338) := goodIn_app (goodIn_of _ (by decide +kernel)) ggJxf58ca_floatToIntBits_5c35a_Jxf58ca_isNaN_12338
theorem dJxf58ca_floatToIntBits_5c35a_0 : decode cJxf58ca_floatToIntBits_5c35a 0 = .ok (.fload_n 0, 1) := by decide +kernel
theorem dJxf58ca_floatToIntBits_5c35a_1 : decode cJxf58ca_floatToIntBits_5c35a 1 = .ok (.invokestatic 59, 3) := by decide +kernel
theorem dJxf58ca_floatToIntBits_5c35a_4 : decode cJxf58ca_floatToIntBits_5c35a 4 = .ok (.ifCond .ne 8, 3) := by decide +kernel
theorem dJxf58ca_floatToIntBits_5c35a_7 : decode cJxf58ca_floatToIntBits_5c35a 7 = .ok (.fload_n 0, 1) := by decide +kernel
theorem dJxf58ca_floatToIntBits_5c35a_8 : decode cJxf58ca_floatToIntBits_5c35a 8 = .ok (.invokestatic 74, 3) := by decide +kernel
theorem dJxf58ca_floatToIntBits_5c35a_11 : decode cJxf58ca_floatToIntBits_5c35a 11 = .ok (.ireturn, 1) := by decide +kernel
theorem dJxf58ca_floatToIntBits_5c35a_12 : decode cJxf58ca_floatToIntBits_5c35a 12 = .ok (.ldc 77, 2) := by decide +kernel
theorem dJxf58ca_floatToIntBits_5c35a_14 : decode cJxf58ca_floatToIntBits_5c35a 14 = .ok (.ireturn, 1) := by decide +kernel
theorem dJ9_abs_0f7a4_0 : decode cJ9_abs_0f7a4 0 = .ok (.iload_n 0, 1) := by decide +kernel
theorem dJ9_abs_0f7a4_1 : decode cJ9_abs_0f7a4 1 = .ok (.ifCond .ge 8, 3) := by decide +kernel
theorem dJ9_abs_0f7a4_4 : decode cJ9_abs_0f7a4 4 = .ok (.iload_n 0, 1) := by decide +kernel
theorem dJ9_abs_0f7a4_5 : decode cJ9_abs_0f7a4 5 = .ok (.ineg, 1) := by decide +kernel
theorem dJ9_abs_0f7a4_6 : decode cJ9_abs_0f7a4 6 = .ok (.goto 4, 3) := by decide +kernel
theorem dJ9_abs_0f7a4_9 : decode cJ9_abs_0f7a4 9 = .ok (.iload_n 0, 1) := by decide +kernel
theorem dJ9_abs_0f7a4_10 : decode cJ9_abs_0f7a4 10 = .ok (.ireturn, 1) := by decide +kernel
theorem dJ9_max_7cf53_0 : decode cJ9_max_7cf53 0 = .ok (.iload_n 0, 1) := by decide +kernel
theorem dJ9_max_7cf53_1 : decode cJ9_max_7cf53 1 = .ok (.iload_n 1, 1) := by decide +kernel
theorem dJ9_max_7cf53_2 : decode cJ9_max_7cf53 2 = .ok (.if_icmp .lt 7, 3) := by decide +kernel
theorem dJ9_max_7cf53_5 : decode cJ9_max_7cf53 5 = .ok (.iload_n 0, 1) := by decide +kernel
theorem dJ9_max_7cf53_6 : decode cJ9_max_7cf53 6 = .ok (.goto 4, 3) := by decide +kernel
theorem dJ9_max_7cf53_9 : decode cJ9_max_7cf53 9 = .ok (.iload_n 1, 1) := by decide +kernel
theorem dJ9_max_7cf53_10 : decode cJ9_max_7cf53 10 = .ok (.ireturn, 1) := by decide +kernel
theorem dJ9_min_7cf53_0 : decode cJ9_min_7cf53 0 = .ok (.iload_n 0, 1) := by decide +kernel
theorem dJ9_min_7cf53_1 : decode cJ9_min_7cf53 1 = .ok (.iload_n 1, 1) := by decide +kernel
theorem dJ9_min_7cf53_2 : decode cJ9_min_7cf53 2 = .ok (.if_icmp .gt 7, 3) := by decide +kernel
theorem dJ9_min_7cf53_5 : decode cJ9_min_7cf53 5 = .ok (.iload_n 0, 1) := by decide +kernel
theorem dJ9_min_7cf53_6 : decode cJ9_min_7cf53 6 = .ok (.goto 4, 3) := by decide +kernel
theorem dJ9_min_7cf53_9 : decode cJ9_min_7cf53 9 = .ok (.iload_n 1, 1) := by decide +kernel
theorem dJ9_min_7cf53_10 : decode cJ9_min_7cf53 10 = .ok (.ireturn, 1) := by decide +kernel
set_option maxRecDepth 20000 in
theorem ggL_tide_X0_tide : GoodIn wsL_tide wsX0_tide := goodIn_ca (goodIn_ca (goodIn_r _ [7, 8, 9, 10, 6, 11, 12, 13, 14, 15, 16, 17, 18, 19, 20, 21, 22, 23, 24, 25, 26, 27, 28, 29, 30, 31, 32, 33] (by decide +kernel) (by decide +kernel)) (goodIn_sub (fun _ h => List.mem_cons_of_mem _ (List.mem_append_left _ (List.mem_append_right _ h))) (by decide +kernel))) (goodIn_sub (fun _ h => List.mem_cons_of_mem _ (List.mem_append_right _ h)) (by decide +kernel))
set_option maxRecDepth 20000 in
theorem gL_tide_X0_tide : GoodIn wsL_tide (wsV RL 7 RX0 yX0_tide wsX0_tide) := goodIn_app (goodIn_of _ (by decide +kernel)) ggL_tide_X0_tide
theorem dL_tide_0 : decode cL_tide 0 = .ok (.aload_n 3, 1) := by decide +kernel
theorem dL_tide_1 : decode cL_tide 1 = .ok (.iconst 0, 1) := by decide +kernel
theorem dL_tide_2 : decode cL_tide 2 = .ok (.aload_n 0, 1) := by decide +kernel
theorem dL_tide_3 : decode cL_tide 3 = .ok (.iload_n 1, 1) := by decide +kernel
theorem dL_tide_4 : decode cL_tide 4 = .ok (.iload_n 2, 1) := by decide +kernel
theorem dL_tide_5 : decode cL_tide 5 = .ok (.invokevirtual 7, 3) := by decide +kernel
theorem dL_tide_8 : decode cL_tide 8 = .ok (.i2l, 1) := by decide +kernel
theorem dL_tide_9 : decode cL_tide 9 = .ok (.lastore, 1) := by decide +kernel
theorem dL_tide_10 : decode cL_tide 10 = .ok (.goto 11, 3) := by decide +kernel
theorem dL_tide_13 : decode cL_tide 13 = .ok (.astore 4, 2) := by decide +kernel
theorem dL_tide_15 : decode cL_tide 15 = .ok (.iconst 1, 1) := by decide +kernel
theorem dL_tide_16 : decode cL_tide 16 = .ok (.ireturn, 1) := by decide +kernel
theorem dL_tide_17 : decode cL_tide 17 = .ok (.astore 4, 2) := by decide +kernel
theorem dL_tide_19 : decode cL_tide 19 = .ok (.iconst 2, 1) := by decide +kernel
theorem dL_tide_20 : decode cL_tide 20 = .ok (.ireturn, 1) := by decide +kernel
theorem dL_tide_21 : decode cL_tide 21 = .ok (.iconst 0, 1) := by decide +kernel
theorem dL_tide_22 : decode cL_tide 22 = .ok (.ireturn, 1) := by decide +kernel
set_option maxRecDepth 20000 in
theorem ggL_price_X0_price : GoodIn wsL_price wsX0_price := goodIn_ca (goodIn_ca (goodIn_r _ [7, 8, 9, 10, 6, 11, 12, 13, 14, 15, 16, 17, 18, 19, 20, 21, 22, 23, 24, 25, 26, 27, 28, 29, 30, 31, 32, 33] (by decide +kernel) (by decide +kernel)) (goodIn_sub (fun _ h => List.mem_cons_of_mem _ (List.mem_append_left _ (List.mem_append_right _ h))) (by decide +kernel))) (goodIn_sub (fun _ h => List.mem_cons_of_mem _ (List.mem_append_right _ h)) (by decide +kernel))
set_option maxRecDepth 20000 in
theorem gL_price_X0_price : GoodIn wsL_price (wsV RL 17 RX0 yX0_price wsX0_price) := goodIn_app (goodIn_of _ (by decide +kernel)) ggL_price_X0_price
theorem dL_price_0 : decode cL_price 0 = .ok (.aload_n 3, 1) := by decide +kernel
theorem dL_price_1 : decode cL_price 1 = .ok (.iconst 0, 1) := by decide +kernel
theorem dL_price_2 : decode cL_price 2 = .ok (.aload_n 0, 1) := by decide +kernel
theorem dL_price_3 : decode cL_price 3 = .ok (.iload_n 1, 1) := by decide +kernel
theorem dL_price_4 : decode cL_price 4 = .ok (.iload_n 2, 1) := by decide +kernel
theorem dL_price_5 : decode cL_price 5 = .ok (.invokevirtual 17, 3) := by decide +kernel
theorem dL_price_8 : decode cL_price 8 = .ok (.i2l, 1) := by decide +kernel
theorem dL_price_9 : decode cL_price 9 = .ok (.lastore, 1) := by decide +kernel
theorem dL_price_10 : decode cL_price 10 = .ok (.goto 11, 3) := by decide +kernel
theorem dL_price_13 : decode cL_price 13 = .ok (.astore 4, 2) := by decide +kernel
theorem dL_price_15 : decode cL_price 15 = .ok (.iconst 1, 1) := by decide +kernel
theorem dL_price_16 : decode cL_price 16 = .ok (.ireturn, 1) := by decide +kernel
theorem dL_price_17 : decode cL_price 17 = .ok (.astore 4, 2) := by decide +kernel
theorem dL_price_19 : decode cL_price 19 = .ok (.iconst 2, 1) := by decide +kernel
theorem dL_price_20 : decode cL_price 20 = .ok (.ireturn, 1) := by decide +kernel
theorem dL_price_21 : decode cL_price 21 = .ok (.iconst 0, 1) := by decide +kernel
theorem dL_price_22 : decode cL_price 22 = .ok (.ireturn, 1) := by decide +kernel
set_option maxRecDepth 20000 in
theorem ggL_wind_X0_wind : GoodIn wsL_wind wsX0_wind := goodIn_ca (goodIn_r _ [6, 7, 8, 9, 5, 10, 11, 12, 13, 14, 15, 16, 17, 18, 19, 20, 21, 22, 23, 24, 25, 26, 27] (by decide +kernel) (by decide +kernel)) (goodIn_sub (fun _ h => List.mem_cons_of_mem _ (List.mem_append_right _ h)) (by decide +kernel))
set_option maxRecDepth 20000 in
theorem gL_wind_X0_wind : GoodIn wsL_wind (wsV RL 20 RX0 yX0_wind wsX0_wind) := goodIn_app (goodIn_of _ (by decide +kernel)) ggL_wind_X0_wind
theorem dL_wind_0 : decode cL_wind 0 = .ok (.aload_n 2, 1) := by decide +kernel
theorem dL_wind_1 : decode cL_wind 1 = .ok (.iconst 0, 1) := by decide +kernel
theorem dL_wind_2 : decode cL_wind 2 = .ok (.aload_n 0, 1) := by decide +kernel
theorem dL_wind_3 : decode cL_wind 3 = .ok (.iload_n 1, 1) := by decide +kernel
theorem dL_wind_4 : decode cL_wind 4 = .ok (.invokevirtual 20, 3) := by decide +kernel
theorem dL_wind_7 : decode cL_wind 7 = .ok (.i2l, 1) := by decide +kernel
theorem dL_wind_8 : decode cL_wind 8 = .ok (.lastore, 1) := by decide +kernel
theorem dL_wind_9 : decode cL_wind 9 = .ok (.goto 6, 3) := by decide +kernel
theorem dL_wind_12 : decode cL_wind 12 = .ok (.astore_n 3, 1) := by decide +kernel
theorem dL_wind_13 : decode cL_wind 13 = .ok (.iconst 1, 1) := by decide +kernel
theorem dL_wind_14 : decode cL_wind 14 = .ok (.ireturn, 1) := by decide +kernel
theorem dL_wind_15 : decode cL_wind 15 = .ok (.iconst 0, 1) := by decide +kernel
theorem dL_wind_16 : decode cL_wind 16 = .ok (.ireturn, 1) := by decide +kernel
set_option maxRecDepth 20000 in
theorem ggL_turbine_X0_turbine : GoodIn wsL_turbine wsX0_turbine := goodIn_ca (goodIn_r _ [6, 7, 8, 9, 10, 11, 12, 13, 14, 15, 16, 17, 18, 19, 20, 21, 22, 23, 24] (by decide +kernel) (by decide +kernel)) (goodIn_sub (fun _ h => List.mem_cons_of_mem _ (List.mem_append_right _ h)) (by decide +kernel))
set_option maxRecDepth 20000 in
theorem gL_turbine_X0_turbine : GoodIn wsL_turbine (wsV RL 24 RX0 yX0_turbine wsX0_turbine) := goodIn_app (goodIn_of _ (by decide +kernel)) ggL_turbine_X0_turbine
theorem dL_turbine_0 : decode cL_turbine 0 = .ok (.aload_n 1, 1) := by decide +kernel
theorem dL_turbine_1 : decode cL_turbine 1 = .ok (.iconst 0, 1) := by decide +kernel
theorem dL_turbine_2 : decode cL_turbine 2 = .ok (.aload_n 0, 1) := by decide +kernel
theorem dL_turbine_3 : decode cL_turbine 3 = .ok (.invokevirtual 24, 3) := by decide +kernel
theorem dL_turbine_6 : decode cL_turbine 6 = .ok (.i2l, 1) := by decide +kernel
theorem dL_turbine_7 : decode cL_turbine 7 = .ok (.lastore, 1) := by decide +kernel
theorem dL_turbine_8 : decode cL_turbine 8 = .ok (.goto 6, 3) := by decide +kernel
theorem dL_turbine_11 : decode cL_turbine 11 = .ok (.astore_n 2, 1) := by decide +kernel
theorem dL_turbine_12 : decode cL_turbine 12 = .ok (.iconst 1, 1) := by decide +kernel
theorem dL_turbine_13 : decode cL_turbine 13 = .ok (.ireturn, 1) := by decide +kernel
theorem dL_turbine_14 : decode cL_turbine 14 = .ok (.iconst 0, 1) := by decide +kernel
theorem dL_turbine_15 : decode cL_turbine 15 = .ok (.ireturn, 1) := by decide +kernel
set_option maxRecDepth 20000 in
theorem ggL_gate_X0_gate : GoodIn wsL_gate wsX0_gate := goodIn_ca (goodIn_ca (goodIn_r _ [7, 8, 9, 10, 11, 6, 12, 13, 14, 15, 16, 17, 18, 19, 20, 21, 22, 23, 24, 25, 26, 27, 28, 29, 30, 31, 32, 33, 34] (by decide +kernel) (by decide +kernel)) (goodIn_sub (fun _ h => List.mem_cons_of_mem _ (List.mem_append_left _ (List.mem_append_right _ h))) (by decide +kernel))) (goodIn_sub (fun _ h => List.mem_cons_of_mem _ (List.mem_append_right _ h)) (by decide +kernel))
set_option maxRecDepth 20000 in
theorem gL_gate_X0_gate : GoodIn wsL_gate (wsV RL 30 RX0 yX0_gate wsX0_gate) := goodIn_app (goodIn_of _ (by decide +kernel)) ggL_gate_X0_gate
theorem dL_gate_0 : decode cL_gate 0 = .ok (.aload_n 3, 1) := by decide +kernel
theorem dL_gate_1 : decode cL_gate 1 = .ok (.iconst 0, 1) := by decide +kernel
theorem dL_gate_2 : decode cL_gate 2 = .ok (.aload_n 0, 1) := by decide +kernel
theorem dL_gate_3 : decode cL_gate 3 = .ok (.iload_n 1, 1) := by decide +kernel
theorem dL_gate_4 : decode cL_gate 4 = .ok (.iload_n 2, 1) := by decide +kernel
theorem dL_gate_5 : decode cL_gate 5 = .ok (.invokevirtual 30, 3) := by decide +kernel
theorem dL_gate_8 : decode cL_gate 8 = .ok (.i2l, 1) := by decide +kernel
theorem dL_gate_9 : decode cL_gate 9 = .ok (.lastore, 1) := by decide +kernel
theorem dL_gate_10 : decode cL_gate 10 = .ok (.goto 11, 3) := by decide +kernel
theorem dL_gate_13 : decode cL_gate 13 = .ok (.astore 4, 2) := by decide +kernel
theorem dL_gate_15 : decode cL_gate 15 = .ok (.iconst 1, 1) := by decide +kernel
theorem dL_gate_16 : decode cL_gate 16 = .ok (.ireturn, 1) := by decide +kernel
theorem dL_gate_17 : decode cL_gate 17 = .ok (.astore 4, 2) := by decide +kernel
theorem dL_gate_19 : decode cL_gate 19 = .ok (.iconst 2, 1) := by decide +kernel
theorem dL_gate_20 : decode cL_gate 20 = .ok (.ireturn, 1) := by decide +kernel
theorem dL_gate_21 : decode cL_gate 21 = .ok (.iconst 0, 1) := by decide +kernel
theorem dL_gate_22 : decode cL_gate 22 = .ok (.ireturn, 1) := by decide +kernel
set_option maxRecDepth 20000 in
theorem ggL_repair_X0_repair : GoodIn wsL_repair wsX0_repair := goodIn_ca (goodIn_r _ [6, 7, 8, 9, 10, 11, 12, 5, 13, 14, 15, 16, 17, 18, 19, 20, 21, 22, 23, 24, 25, 26, 27, 28, 29, 30] (by decide +kernel) (by decide +kernel)) (goodIn_sub (fun _ h => List.mem_cons_of_mem _ (List.mem_append_right _ h)) (by decide +kernel))
set_option maxRecDepth 20000 in
theorem gL_repair_X0_repair : GoodIn wsL_repair (wsV RL 33 RX0 yX0_repair wsX0_repair) := goodIn_app (goodIn_of _ (by decide +kernel)) ggL_repair_X0_repair
theorem dL_repair_0 : decode cL_repair 0 = .ok (.aload_n 2, 1) := by decide +kernel
theorem dL_repair_1 : decode cL_repair 1 = .ok (.iconst 0, 1) := by decide +kernel
theorem dL_repair_2 : decode cL_repair 2 = .ok (.aload_n 0, 1) := by decide +kernel
theorem dL_repair_3 : decode cL_repair 3 = .ok (.iload_n 1, 1) := by decide +kernel
theorem dL_repair_4 : decode cL_repair 4 = .ok (.invokevirtual 33, 3) := by decide +kernel
theorem dL_repair_7 : decode cL_repair 7 = .ok (.i2l, 1) := by decide +kernel
theorem dL_repair_8 : decode cL_repair 8 = .ok (.lastore, 1) := by decide +kernel
theorem dL_repair_9 : decode cL_repair 9 = .ok (.goto 6, 3) := by decide +kernel
theorem dL_repair_12 : decode cL_repair 12 = .ok (.astore_n 3, 1) := by decide +kernel
theorem dL_repair_13 : decode cL_repair 13 = .ok (.iconst 1, 1) := by decide +kernel
theorem dL_repair_14 : decode cL_repair 14 = .ok (.ireturn, 1) := by decide +kernel
theorem dL_repair_15 : decode cL_repair 15 = .ok (.iconst 0, 1) := by decide +kernel
theorem dL_repair_16 : decode cL_repair 16 = .ok (.ireturn, 1) := by decide +kernel
set_option maxRecDepth 20000 in
theorem ggL_run_X0_run : GoodIn wsL_run wsX0_run := goodIn_ca (goodIn_r _ [6, 7, 8, 9, 10, 5, 11, 12, 13, 14, 15, 16, 17, 18, 19, 20, 21, 22, 23, 24, 25, 26, 27, 28] (by decide +kernel) (by decide +kernel)) (goodIn_sub (fun _ h => List.mem_cons_of_mem _ (List.mem_append_right _ h)) (by decide +kernel))
set_option maxRecDepth 20000 in
theorem gL_run_X0_run : GoodIn wsL_run (wsV RL 36 RX0 yX0_run wsX0_run) := goodIn_app (goodIn_of _ (by decide +kernel)) ggL_run_X0_run
theorem dL_run_0 : decode cL_run 0 = .ok (.aload_n 2, 1) := by decide +kernel
theorem dL_run_1 : decode cL_run 1 = .ok (.iconst 0, 1) := by decide +kernel
theorem dL_run_2 : decode cL_run 2 = .ok (.aload_n 0, 1) := by decide +kernel
theorem dL_run_3 : decode cL_run 3 = .ok (.iload_n 1, 1) := by decide +kernel
theorem dL_run_4 : decode cL_run 4 = .ok (.invokevirtual 36, 3) := by decide +kernel
theorem dL_run_7 : decode cL_run 7 = .ok (.ifCond .eq 7, 3) := by decide +kernel
theorem dL_run_10 : decode cL_run 10 = .ok (.lconst 1, 1) := by decide +kernel
theorem dL_run_11 : decode cL_run 11 = .ok (.goto 4, 3) := by decide +kernel
theorem dL_run_14 : decode cL_run 14 = .ok (.lconst 0, 1) := by decide +kernel
theorem dL_run_15 : decode cL_run 15 = .ok (.lastore, 1) := by decide +kernel
theorem dL_run_16 : decode cL_run 16 = .ok (.goto 6, 3) := by decide +kernel
theorem dL_run_19 : decode cL_run 19 = .ok (.astore_n 3, 1) := by decide +kernel
theorem dL_run_20 : decode cL_run 20 = .ok (.iconst 1, 1) := by decide +kernel
theorem dL_run_21 : decode cL_run 21 = .ok (.ireturn, 1) := by decide +kernel
theorem dL_run_22 : decode cL_run 22 = .ok (.iconst 0, 1) := by decide +kernel
theorem dL_run_23 : decode cL_run 23 = .ok (.ireturn, 1) := by decide +kernel
set_option maxRecDepth 20000 in
theorem ggL_limit_X0_limit : GoodIn wsL_limit wsX0_limit := goodIn_ca (goodIn_r _ [6, 7, 8, 9, 5, 10, 11, 12, 13, 14, 15, 16, 17, 18, 19, 20, 21, 22, 23, 24, 25, 26, 27] (by decide +kernel) (by decide +kernel)) (goodIn_sub (fun _ h => List.mem_cons_of_mem _ (List.mem_append_right _ h)) (by decide +kernel))
set_option maxRecDepth 20000 in
theorem gL_limit_X0_limit : GoodIn wsL_limit (wsV RL 40 RX0 yX0_limit wsX0_limit) := goodIn_app (goodIn_of _ (by decide +kernel)) ggL_limit_X0_limit
theorem dL_limit_0 : decode cL_limit 0 = .ok (.aload_n 2, 1) := by decide +kernel
theorem dL_limit_1 : decode cL_limit 1 = .ok (.iconst 0, 1) := by decide +kernel
theorem dL_limit_2 : decode cL_limit 2 = .ok (.aload_n 0, 1) := by decide +kernel
theorem dL_limit_3 : decode cL_limit 3 = .ok (.iload_n 1, 1) := by decide +kernel
theorem dL_limit_4 : decode cL_limit 4 = .ok (.invokevirtual 40, 3) := by decide +kernel
theorem dL_limit_7 : decode cL_limit 7 = .ok (.i2l, 1) := by decide +kernel
theorem dL_limit_8 : decode cL_limit 8 = .ok (.lastore, 1) := by decide +kernel
theorem dL_limit_9 : decode cL_limit 9 = .ok (.goto 6, 3) := by decide +kernel
theorem dL_limit_12 : decode cL_limit 12 = .ok (.astore_n 3, 1) := by decide +kernel
theorem dL_limit_13 : decode cL_limit 13 = .ok (.iconst 1, 1) := by decide +kernel
theorem dL_limit_14 : decode cL_limit 14 = .ok (.ireturn, 1) := by decide +kernel
theorem dL_limit_15 : decode cL_limit 15 = .ok (.iconst 0, 1) := by decide +kernel
theorem dL_limit_16 : decode cL_limit 16 = .ok (.ireturn, 1) := by decide +kernel
set_option maxRecDepth 20000 in
theorem ggL_sell_X0_sell : GoodIn wsL_sell wsX0_sell := goodIn_ca (goodIn_ca (goodIn_ca (goodIn_r _ [8, 9, 10, 11, 12, 13, 14, 15, 7, 16, 17, 18, 19, 20, 21, 22, 23, 24, 25, 26, 27, 28, 29, 30, 31, 32, 33, 34, 35, 36, 37, 38, 39, 40, 41] (by decide +kernel) (by decide +kernel)) (goodIn_sub (fun _ h => List.mem_cons_of_mem _ (List.mem_append_left _ (List.mem_append_left _ (List.mem_append_right _ h)))) (by decide +kernel))) (goodIn_sub (fun _ h => List.mem_cons_of_mem _ (List.mem_append_left _ (List.mem_append_right _ h))) (by decide +kernel))) (goodIn_sub (fun _ h => List.mem_cons_of_mem _ (List.mem_append_right _ h)) (by decide +kernel))
set_option maxRecDepth 20000 in
theorem gL_sell_X0_sell : GoodIn wsL_sell (wsV RL 43 RX0 yX0_sell wsX0_sell) := goodIn_app (goodIn_of _ (by decide +kernel)) ggL_sell_X0_sell
theorem dL_sell_0 : decode cL_sell 0 = .ok (.aload 4, 2) := by decide +kernel
theorem dL_sell_2 : decode cL_sell 2 = .ok (.iconst 0, 1) := by decide +kernel
theorem dL_sell_3 : decode cL_sell 3 = .ok (.aload_n 0, 1) := by decide +kernel
theorem dL_sell_4 : decode cL_sell 4 = .ok (.iload_n 1, 1) := by decide +kernel
theorem dL_sell_5 : decode cL_sell 5 = .ok (.iload_n 2, 1) := by decide +kernel
theorem dL_sell_6 : decode cL_sell 6 = .ok (.iload_n 3, 1) := by decide +kernel
theorem dL_sell_7 : decode cL_sell 7 = .ok (.invokevirtual 43, 3) := by decide +kernel
theorem dL_sell_10 : decode cL_sell 10 = .ok (.i2l, 1) := by decide +kernel
theorem dL_sell_11 : decode cL_sell 11 = .ok (.lastore, 1) := by decide +kernel
theorem dL_sell_12 : decode cL_sell 12 = .ok (.goto 15, 3) := by decide +kernel
theorem dL_sell_15 : decode cL_sell 15 = .ok (.astore 5, 2) := by decide +kernel
theorem dL_sell_17 : decode cL_sell 17 = .ok (.iconst 1, 1) := by decide +kernel
theorem dL_sell_18 : decode cL_sell 18 = .ok (.ireturn, 1) := by decide +kernel
theorem dL_sell_19 : decode cL_sell 19 = .ok (.astore 5, 2) := by decide +kernel
theorem dL_sell_21 : decode cL_sell 21 = .ok (.iconst 2, 1) := by decide +kernel
theorem dL_sell_22 : decode cL_sell 22 = .ok (.ireturn, 1) := by decide +kernel
theorem dL_sell_23 : decode cL_sell 23 = .ok (.astore 5, 2) := by decide +kernel
theorem dL_sell_25 : decode cL_sell 25 = .ok (.iconst 3, 1) := by decide +kernel
theorem dL_sell_26 : decode cL_sell 26 = .ok (.ireturn, 1) := by decide +kernel
theorem dL_sell_27 : decode cL_sell 27 = .ok (.iconst 0, 1) := by decide +kernel
theorem dL_sell_28 : decode cL_sell 28 = .ok (.ireturn, 1) := by decide +kernel
set_option maxRecDepth 20000 in
theorem ggL_pass_X0_pass : GoodIn wsL_pass wsX0_pass := goodIn_ca (goodIn_ca (goodIn_r _ [7, 8, 9, 10, 11, 12, 6, 13, 14, 15, 16, 17, 18, 19, 20, 21, 22, 23, 24, 25, 26, 27, 28, 29, 30, 31, 32, 33, 34, 35, 36, 37, 38, 39, 40, 41, 42, 43, 44, 45, 46, 47, 48, 49, 50, 51, 52, 53, 54, 55, 56, 57, 58, 59, 60, 61, 62, 63, 64, 65, 66, 67, 68, 69, 70, 71, 72, 73, 74, 75, 76, 77, 78, 79, 80, 81, 82, 83, 84, 85, 86, 87] (by decide +kernel) (by decide +kernel)) (goodIn_sub (fun _ h => List.mem_cons_of_mem _ (List.mem_append_left _ (List.mem_append_right _ h))) (by decide +kernel))) (goodIn_sub (fun _ h => List.mem_cons_of_mem _ (List.mem_append_right _ h)) (by decide +kernel))
set_option maxRecDepth 20000 in
theorem gL_pass_X0_pass : GoodIn wsL_pass (wsV RL 47 RX0 yX0_pass wsX0_pass) := goodIn_app (goodIn_of _ (by decide +kernel)) ggL_pass_X0_pass
theorem dL_pass_0 : decode cL_pass 0 = .ok (.aload_n 2, 1) := by decide +kernel
theorem dL_pass_1 : decode cL_pass 1 = .ok (.iconst 0, 1) := by decide +kernel
theorem dL_pass_2 : decode cL_pass 2 = .ok (.aload_n 0, 1) := by decide +kernel
theorem dL_pass_3 : decode cL_pass 3 = .ok (.iload_n 1, 1) := by decide +kernel
theorem dL_pass_4 : decode cL_pass 4 = .ok (.invokevirtual 47, 3) := by decide +kernel
theorem dL_pass_7 : decode cL_pass 7 = .ok (.i2l, 1) := by decide +kernel
theorem dL_pass_8 : decode cL_pass 8 = .ok (.lastore, 1) := by decide +kernel
theorem dL_pass_9 : decode cL_pass 9 = .ok (.goto 9, 3) := by decide +kernel
theorem dL_pass_12 : decode cL_pass 12 = .ok (.astore_n 3, 1) := by decide +kernel
theorem dL_pass_13 : decode cL_pass 13 = .ok (.iconst 1, 1) := by decide +kernel
theorem dL_pass_14 : decode cL_pass 14 = .ok (.ireturn, 1) := by decide +kernel
theorem dL_pass_15 : decode cL_pass 15 = .ok (.astore_n 3, 1) := by decide +kernel
theorem dL_pass_16 : decode cL_pass 16 = .ok (.iconst 2, 1) := by decide +kernel
theorem dL_pass_17 : decode cL_pass 17 = .ok (.ireturn, 1) := by decide +kernel
theorem dL_pass_18 : decode cL_pass 18 = .ok (.iconst 0, 1) := by decide +kernel
theorem dL_pass_19 : decode cL_pass 19 = .ok (.ireturn, 1) := by decide +kernel
set_option maxRecDepth 20000 in
theorem ggL_made_X0_made : GoodIn wsL_made wsX0_made := goodIn_ca (goodIn_r _ [6, 7, 8, 9, 10, 5, 11, 12, 13, 14, 15, 16, 17, 18, 19, 20, 21, 22, 23, 24, 25, 26, 27, 28] (by decide +kernel) (by decide +kernel)) (goodIn_sub (fun _ h => List.mem_cons_of_mem _ (List.mem_append_right _ h)) (by decide +kernel))
set_option maxRecDepth 20000 in
theorem gL_made_X0_made : GoodIn wsL_made (wsV RL 50 RX0 yX0_made wsX0_made) := goodIn_app (goodIn_of _ (by decide +kernel)) ggL_made_X0_made
theorem dL_made_0 : decode cL_made 0 = .ok (.aload_n 2, 1) := by decide +kernel
theorem dL_made_1 : decode cL_made 1 = .ok (.iconst 0, 1) := by decide +kernel
theorem dL_made_2 : decode cL_made 2 = .ok (.aload_n 0, 1) := by decide +kernel
theorem dL_made_3 : decode cL_made 3 = .ok (.iload_n 1, 1) := by decide +kernel
theorem dL_made_4 : decode cL_made 4 = .ok (.invokevirtual 50, 3) := by decide +kernel
theorem dL_made_7 : decode cL_made 7 = .ok (.i2l, 1) := by decide +kernel
theorem dL_made_8 : decode cL_made 8 = .ok (.lastore, 1) := by decide +kernel
theorem dL_made_9 : decode cL_made 9 = .ok (.goto 6, 3) := by decide +kernel
theorem dL_made_12 : decode cL_made 12 = .ok (.astore_n 3, 1) := by decide +kernel
theorem dL_made_13 : decode cL_made 13 = .ok (.iconst 1, 1) := by decide +kernel
theorem dL_made_14 : decode cL_made 14 = .ok (.ireturn, 1) := by decide +kernel
theorem dL_made_15 : decode cL_made 15 = .ok (.iconst 0, 1) := by decide +kernel
theorem dL_made_16 : decode cL_made 16 = .ok (.ireturn, 1) := by decide +kernel
set_option maxRecDepth 20000 in
theorem ggL_madeAnew_X0_madeAnew : GoodIn wsL_madeAnew wsX0_madeAnew := goodIn_ca (goodIn_r _ [6, 7, 8, 9, 5, 10, 11, 12, 13, 14, 15, 16, 17, 18, 19, 20, 21, 22, 23, 24, 25, 26, 27, 28, 29, 30, 31, 32, 33, 34, 35, 36, 37, 38, 39, 40, 41, 42, 43, 44, 45, 46, 47, 48, 49, 50, 51, 52, 53, 54, 55, 56, 57] (by decide +kernel) (by decide +kernel)) (goodIn_sub (fun _ h => List.mem_cons_of_mem _ (List.mem_append_right _ h)) (by decide +kernel))
set_option maxRecDepth 20000 in
theorem gL_madeAnew_X0_madeAnew : GoodIn wsL_madeAnew (wsV RL 53 RX0 yX0_madeAnew wsX0_madeAnew) := goodIn_app (goodIn_of _ (by decide +kernel)) ggL_madeAnew_X0_madeAnew
theorem dL_madeAnew_0 : decode cL_madeAnew 0 = .ok (.aload_n 2, 1) := by decide +kernel
theorem dL_madeAnew_1 : decode cL_madeAnew 1 = .ok (.iconst 0, 1) := by decide +kernel
theorem dL_madeAnew_2 : decode cL_madeAnew 2 = .ok (.aload_n 0, 1) := by decide +kernel
theorem dL_madeAnew_3 : decode cL_madeAnew 3 = .ok (.iload_n 1, 1) := by decide +kernel
theorem dL_madeAnew_4 : decode cL_madeAnew 4 = .ok (.invokevirtual 53, 3) := by decide +kernel
theorem dL_madeAnew_7 : decode cL_madeAnew 7 = .ok (.i2l, 1) := by decide +kernel
theorem dL_madeAnew_8 : decode cL_madeAnew 8 = .ok (.lastore, 1) := by decide +kernel
theorem dL_madeAnew_9 : decode cL_madeAnew 9 = .ok (.goto 6, 3) := by decide +kernel
theorem dL_madeAnew_12 : decode cL_madeAnew 12 = .ok (.astore_n 3, 1) := by decide +kernel
theorem dL_madeAnew_13 : decode cL_madeAnew 13 = .ok (.iconst 1, 1) := by decide +kernel
theorem dL_madeAnew_14 : decode cL_madeAnew 14 = .ok (.ireturn, 1) := by decide +kernel
theorem dL_madeAnew_15 : decode cL_madeAnew 15 = .ok (.iconst 0, 1) := by decide +kernel
theorem dL_madeAnew_16 : decode cL_madeAnew 16 = .ok (.ireturn, 1) := by decide +kernel
set_option maxRecDepth 20000 in
theorem ggL_sold_X0_sold : GoodIn wsL_sold wsX0_sold := goodIn_ca (goodIn_r _ [6, 7, 8, 9, 10, 5, 11, 12, 13, 14, 15, 16, 17, 18, 19, 20, 21, 22, 23, 24, 25, 26, 27, 28] (by decide +kernel) (by decide +kernel)) (goodIn_sub (fun _ h => List.mem_cons_of_mem _ (List.mem_append_right _ h)) (by decide +kernel))
set_option maxRecDepth 20000 in
theorem gL_sold_X0_sold : GoodIn wsL_sold (wsV RL 56 RX0 yX0_sold wsX0_sold) := goodIn_app (goodIn_of _ (by decide +kernel)) ggL_sold_X0_sold
theorem dL_sold_0 : decode cL_sold 0 = .ok (.aload_n 2, 1) := by decide +kernel
theorem dL_sold_1 : decode cL_sold 1 = .ok (.iconst 0, 1) := by decide +kernel
theorem dL_sold_2 : decode cL_sold 2 = .ok (.aload_n 0, 1) := by decide +kernel
theorem dL_sold_3 : decode cL_sold 3 = .ok (.iload_n 1, 1) := by decide +kernel
theorem dL_sold_4 : decode cL_sold 4 = .ok (.invokevirtual 56, 3) := by decide +kernel
theorem dL_sold_7 : decode cL_sold 7 = .ok (.i2l, 1) := by decide +kernel
theorem dL_sold_8 : decode cL_sold 8 = .ok (.lastore, 1) := by decide +kernel
theorem dL_sold_9 : decode cL_sold 9 = .ok (.goto 6, 3) := by decide +kernel
theorem dL_sold_12 : decode cL_sold 12 = .ok (.astore_n 3, 1) := by decide +kernel
theorem dL_sold_13 : decode cL_sold 13 = .ok (.iconst 1, 1) := by decide +kernel
theorem dL_sold_14 : decode cL_sold 14 = .ok (.ireturn, 1) := by decide +kernel
theorem dL_sold_15 : decode cL_sold 15 = .ok (.iconst 0, 1) := by decide +kernel
theorem dL_sold_16 : decode cL_sold 16 = .ok (.ireturn, 1) := by decide +kernel
set_option maxRecDepth 20000 in
theorem ggL_bought_X0_bought : GoodIn wsL_bought wsX0_bought := goodIn_ca (goodIn_r _ [6, 7, 8, 9, 10, 11, 12, 13, 14, 15, 5, 16, 17, 18, 19, 20, 21, 22, 23, 24, 25, 26, 27, 28, 29, 30, 31, 32, 33] (by decide +kernel) (by decide +kernel)) (goodIn_sub (fun _ h => List.mem_cons_of_mem _ (List.mem_append_right _ h)) (by decide +kernel))
set_option maxRecDepth 20000 in
theorem gL_bought_X0_bought : GoodIn wsL_bought (wsV RL 59 RX0 yX0_bought wsX0_bought) := goodIn_app (goodIn_of _ (by decide +kernel)) ggL_bought_X0_bought
theorem dL_bought_0 : decode cL_bought 0 = .ok (.aload_n 2, 1) := by decide +kernel
theorem dL_bought_1 : decode cL_bought 1 = .ok (.iconst 0, 1) := by decide +kernel
theorem dL_bought_2 : decode cL_bought 2 = .ok (.aload_n 0, 1) := by decide +kernel
theorem dL_bought_3 : decode cL_bought 3 = .ok (.iload_n 1, 1) := by decide +kernel
theorem dL_bought_4 : decode cL_bought 4 = .ok (.invokevirtual 59, 3) := by decide +kernel
theorem dL_bought_7 : decode cL_bought 7 = .ok (.i2l, 1) := by decide +kernel
theorem dL_bought_8 : decode cL_bought 8 = .ok (.lastore, 1) := by decide +kernel
theorem dL_bought_9 : decode cL_bought 9 = .ok (.goto 6, 3) := by decide +kernel
theorem dL_bought_12 : decode cL_bought 12 = .ok (.astore_n 3, 1) := by decide +kernel
theorem dL_bought_13 : decode cL_bought 13 = .ok (.iconst 1, 1) := by decide +kernel
theorem dL_bought_14 : decode cL_bought 14 = .ok (.ireturn, 1) := by decide +kernel
theorem dL_bought_15 : decode cL_bought 15 = .ok (.iconst 0, 1) := by decide +kernel
theorem dL_bought_16 : decode cL_bought 16 = .ok (.ireturn, 1) := by decide +kernel
set_option maxRecDepth 20000 in
theorem ggL_head_X0_head : GoodIn wsL_head wsX0_head := goodIn_ca (goodIn_r _ [6, 7, 8, 9, 10, 5, 11, 12, 13, 14, 15, 16, 17, 18, 19, 20, 21, 22, 23, 24, 25, 26, 27, 28, 29, 30, 31] (by decide +kernel) (by decide +kernel)) (goodIn_sub (fun _ h => List.mem_cons_of_mem _ (List.mem_append_right _ h)) (by decide +kernel))
set_option maxRecDepth 20000 in
theorem gL_head_X0_head : GoodIn wsL_head (wsV RL 62 RX0 yX0_head wsX0_head) := goodIn_app (goodIn_of _ (by decide +kernel)) ggL_head_X0_head
theorem dL_head_0 : decode cL_head 0 = .ok (.aload_n 2, 1) := by decide +kernel
theorem dL_head_1 : decode cL_head 1 = .ok (.iconst 0, 1) := by decide +kernel
theorem dL_head_2 : decode cL_head 2 = .ok (.aload_n 0, 1) := by decide +kernel
theorem dL_head_3 : decode cL_head 3 = .ok (.iload_n 1, 1) := by decide +kernel
theorem dL_head_4 : decode cL_head 4 = .ok (.invokevirtual 62, 3) := by decide +kernel
theorem dL_head_7 : decode cL_head 7 = .ok (.i2l, 1) := by decide +kernel
theorem dL_head_8 : decode cL_head 8 = .ok (.lastore, 1) := by decide +kernel
theorem dL_head_9 : decode cL_head 9 = .ok (.goto 6, 3) := by decide +kernel
theorem dL_head_12 : decode cL_head 12 = .ok (.astore_n 3, 1) := by decide +kernel
theorem dL_head_13 : decode cL_head 13 = .ok (.iconst 1, 1) := by decide +kernel
theorem dL_head_14 : decode cL_head 14 = .ok (.ireturn, 1) := by decide +kernel
theorem dL_head_15 : decode cL_head 15 = .ok (.iconst 0, 1) := by decide +kernel
theorem dL_head_16 : decode cL_head 16 = .ok (.ireturn, 1) := by decide +kernel
set_option maxRecDepth 20000 in
theorem ggL_about_X0_about : GoodIn wsL_about wsX0_about := goodIn_ca (goodIn_ca (goodIn_r _ [7, 8, 9, 10, 11, 12, 13, 14, 15, 16, 17, 18, 6, 19, 20, 21, 22, 23, 24, 25, 26, 27, 28, 29, 30, 31, 32, 33, 34, 35, 36, 37, 38, 39, 40, 41] (by decide +kernel) (by decide +kernel)) (goodIn_sub (fun _ h => List.mem_cons_of_mem _ (List.mem_append_left _ (List.mem_append_right _ h))) (by decide +kernel))) (goodIn_sub (fun _ h => List.mem_cons_of_mem _ (List.mem_append_right _ h)) (by decide +kernel))
set_option maxRecDepth 20000 in
theorem gL_about_X0_about : GoodIn wsL_about (wsV RL 65 RX0 yX0_about wsX0_about) := goodIn_app (goodIn_of _ (by decide +kernel)) ggL_about_X0_about
theorem dL_about_0 : decode cL_about 0 = .ok (.aload_n 3, 1) := by decide +kernel
theorem dL_about_1 : decode cL_about 1 = .ok (.iconst 0, 1) := by decide +kernel
theorem dL_about_2 : decode cL_about 2 = .ok (.aload_n 0, 1) := by decide +kernel
theorem dL_about_3 : decode cL_about 3 = .ok (.iload_n 1, 1) := by decide +kernel
theorem dL_about_4 : decode cL_about 4 = .ok (.iload_n 2, 1) := by decide +kernel
theorem dL_about_5 : decode cL_about 5 = .ok (.invokevirtual 65, 3) := by decide +kernel
theorem dL_about_8 : decode cL_about 8 = .ok (.i2l, 1) := by decide +kernel
theorem dL_about_9 : decode cL_about 9 = .ok (.lastore, 1) := by decide +kernel
theorem dL_about_10 : decode cL_about 10 = .ok (.goto 11, 3) := by decide +kernel
theorem dL_about_13 : decode cL_about 13 = .ok (.astore 4, 2) := by decide +kernel
theorem dL_about_15 : decode cL_about 15 = .ok (.iconst 1, 1) := by decide +kernel
theorem dL_about_16 : decode cL_about 16 = .ok (.ireturn, 1) := by decide +kernel
theorem dL_about_17 : decode cL_about 17 = .ok (.astore 4, 2) := by decide +kernel
theorem dL_about_19 : decode cL_about 19 = .ok (.iconst 2, 1) := by decide +kernel
theorem dL_about_20 : decode cL_about 20 = .ok (.ireturn, 1) := by decide +kernel
theorem dL_about_21 : decode cL_about 21 = .ok (.iconst 0, 1) := by decide +kernel
theorem dL_about_22 : decode cL_about 22 = .ok (.ireturn, 1) := by decide +kernel
abbrev vwCl : List vw_C := [(RX0, TX0, 15), (RX1, TX1, 17)]
end
section
set_option maxRecDepth 20000 in
theorem ggL_law_X0_init : GoodIn wsL_law wsX0_init := goodIn_r _ [9, 10, 11, 12, 13, 14, 15, 16, 17, 18, 19, 20, 21, 22, 363, 364, 365, 366, 367, 368, 369, 370, 371, 372, 373, 374, 375, 376, 377] (by decide +kernel) (by decide +kernel)
set_option maxRecDepth 20000 in
theorem gL_law_X0_init : GoodIn wsL_law (wsX0_init) := ggL_law_X0_init
set_option maxRecDepth 20000 in
theorem ggL_law_X1_init : GoodIn wsL_law wsX1_init := goodIn_r _ [25, 26, 11, 12, 13, 27, 28, 29, 30, 31, 32, 33, 34, 35, 36, 378, 379, 380, 381, 382, 383, 384, 385, 386, 387, 388, 389, 390, 391, 392, 393, 394] (by decide +kernel) (by decide +kernel)
set_option maxRecDepth 20000 in
theorem gL_law_X1_init : GoodIn wsL_law (wsX1_init) := ggL_law_X1_init
set_option maxRecDepth 20000 in
theorem ggL_law_L_tide : GoodIn wsL_law wsL_tide := goodIn_ca (goodIn_ca (goodIn_r _ [40, 41, 42, 43, 44, 45, 2, 46, 14, 47, 48, 49, 50, 51, 52, 53, 54, 55, 56, 363, 364, 365, 366, 367, 368, 369, 370, 371, 372, 373, 374, 375, 376, 377] (by decide +kernel) (by decide +kernel)) (goodIn_sub (fun _ h => List.mem_append_left _ (List.mem_append_left _ (List.mem_append_right _ h))) (by decide +kernel))) (goodIn_sub (fun _ h => List.mem_append_left _ (List.mem_append_right _ h)) (by decide +kernel))
set_option maxRecDepth 20000 in
theorem gL_law_L_tide : GoodIn wsL_law (va_wsS RL 72 yL_tide wsL_tide) := goodIn_app (goodIn_of _ (by decide +kernel)) ggL_law_L_tide
set_option maxRecDepth 20000 in
theorem ggL_law_X1_tide : GoodIn wsL_law wsX1_tide := goodIn_r _ [60, 61, 27, 62, 63, 5, 64, 378, 379, 380, 381, 382, 383, 384, 385, 386, 387, 388, 389, 390, 391, 392, 393, 394] (by decide +kernel) (by decide +kernel)
set_option maxRecDepth 20000 in
theorem gL_law_X1_tide : GoodIn wsL_law (wsV RL 77 RX1 yX1_tide wsX1_tide) := goodIn_app (goodIn_of _ (by decide +kernel)) ggL_law_X1_tide
set_option maxRecDepth 20000 in
theorem ggL_law_X1_thrown : GoodIn wsL_law wsX1_thrown := goodIn_r _ [68, 61, 378, 379, 380, 381, 382, 383, 384, 385, 386, 387, 388, 389, 390, 391, 392, 393, 394] (by decide +kernel) (by decide +kernel)
set_option maxRecDepth 20000 in
theorem gL_law_X1_thrown : GoodIn wsL_law (wsV RL 78 RX1 yX1_thrown wsX1_thrown) := goodIn_app (goodIn_of _ (by decide +kernel)) ggL_law_X1_thrown
set_option maxRecDepth 20000 in
theorem ggL_law_L_price : GoodIn wsL_law wsL_price := goodIn_ca (goodIn_ca (goodIn_r _ [71, 41, 42, 72, 73, 74, 2, 75, 15, 47, 48, 49, 50, 51, 52, 53, 54, 55, 56, 363, 364, 365, 366, 367, 368, 369, 370, 371, 372, 373, 374, 375, 376, 377] (by decide +kernel) (by decide +kernel)) (goodIn_sub (fun _ h => List.mem_append_left _ (List.mem_append_left _ (List.mem_append_right _ h))) (by decide +kernel))) (goodIn_sub (fun _ h => List.mem_append_left _ (List.mem_append_right _ h)) (by decide +kernel))
set_option maxRecDepth 20000 in
theorem gL_law_L_price : GoodIn wsL_law (va_wsS RL 81 yL_price wsL_price) := goodIn_app (goodIn_of _ (by decide +kernel)) ggL_law_L_price
set_option maxRecDepth 20000 in
theorem ggL_law_X1_price : GoodIn wsL_law wsX1_price := goodIn_r _ [79, 61, 28, 62, 63, 5, 64, 378, 379, 380, 381, 382, 383, 384, 385, 386, 387, 388, 389, 390, 391, 392, 393, 394] (by decide +kernel) (by decide +kernel)
set_option maxRecDepth 20000 in
theorem gL_law_X1_price : GoodIn wsL_law (wsV RL 83 RX1 yX1_price wsX1_price) := goodIn_app (goodIn_of _ (by decide +kernel)) ggL_law_X1_price
set_option maxRecDepth 20000 in
theorem ggL_law_L_wind : GoodIn wsL_law wsL_wind := goodIn_ca (goodIn_r _ [82, 42, 83, 84, 85, 2, 86, 87, 52, 53, 54, 55, 56, 363, 364, 365, 366, 367, 368, 369, 370, 371, 372, 373, 374, 375, 376, 377] (by decide +kernel) (by decide +kernel)) (goodIn_sub (fun _ h => List.mem_append_left _ (List.mem_append_right _ h)) (by decide +kernel))
set_option maxRecDepth 20000 in
theorem gL_law_L_wind : GoodIn wsL_law (va_wsS RL 84 yL_wind wsL_wind) := goodIn_app (goodIn_of _ (by decide +kernel)) ggL_law_L_wind
set_option maxRecDepth 20000 in
theorem ggL_law_X1_wind : GoodIn wsL_law wsX1_wind := goodIn_r _ [91, 61, 92, 62, 63, 5, 64, 378, 379, 380, 381, 382, 383, 384, 385, 386, 387, 388, 389, 390, 391, 392, 393, 394] (by decide +kernel) (by decide +kernel)
set_option maxRecDepth 20000 in
theorem gL_law_X1_wind : GoodIn wsL_law (wsV RL 87 RX1 yX1_wind wsX1_wind) := goodIn_app (goodIn_of _ (by decide +kernel)) ggL_law_X1_wind
set_option maxRecDepth 20000 in
theorem ggL_law_L_turbine : GoodIn wsL_law wsL_turbine := goodIn_ca (goodIn_r _ [95, 96, 97, 98, 99, 2, 100, 101, 102, 103, 363, 364, 365, 366, 367, 368, 369, 370, 371, 372, 373, 374, 375, 376, 377] (by decide +kernel) (by decide +kernel)) (goodIn_sub (fun _ h => List.mem_append_right _ h) (by decide +kernel))
set_option maxRecDepth 20000 in
theorem gL_law_L_turbine : GoodIn wsL_law (va_wsS RL 88 yL_turbine wsL_turbine) := goodIn_app (goodIn_of _ (by decide +kernel)) ggL_law_L_turbine
set_option maxRecDepth 20000 in
theorem ggL_law_X1_turbine : GoodIn wsL_law wsX1_turbine := goodIn_r _ [107, 108, 61, 378, 379, 380, 381, 382, 383, 384, 385, 386, 387, 388, 389, 390, 391, 392, 393, 394] (by decide +kernel) (by decide +kernel)
set_option maxRecDepth 20000 in
theorem gL_law_X1_turbine : GoodIn wsL_law (wsV RL 91 RX1 yX1_turbine wsX1_turbine) := goodIn_app (goodIn_of _ (by decide +kernel)) ggL_law_X1_turbine
set_option maxRecDepth 20000 in
theorem ggL_law_L_gate : GoodIn wsL_law wsL_gate := goodIn_ca (goodIn_ca (goodIn_r _ [111, 41, 42, 112, 113, 114, 2, 115, 103, 16, 47, 48, 49, 50, 51, 52, 53, 54, 55, 56, 363, 364, 365, 366, 367, 368, 369, 370, 371, 372, 373, 374, 375, 376, 377] (by decide +kernel) (by decide +kernel)) (goodIn_sub (fun _ h => List.mem_append_left _ (List.mem_append_left _ (List.mem_append_right _ h))) (by decide +kernel))) (goodIn_sub (fun _ h => List.mem_append_left _ (List.mem_append_right _ h)) (by decide +kernel))
set_option maxRecDepth 20000 in
theorem gL_law_L_gate : GoodIn wsL_law (va_wsS RL 92 yL_gate wsL_gate) := goodIn_app (goodIn_of _ (by decide +kernel)) ggL_law_L_gate
set_option maxRecDepth 20000 in
theorem ggL_law_X1_gate : GoodIn wsL_law wsX1_gate := goodIn_r _ [119, 61, 29, 120, 121, 122, 5, 123, 108, 62, 63, 64, 378, 379, 380, 381, 382, 383, 384, 385, 386, 387, 388, 389, 390, 391, 392, 393, 394] (by decide +kernel) (by decide +kernel)
set_option maxRecDepth 20000 in
theorem gL_law_X1_gate : GoodIn wsL_law (wsV RL 94 RX1 yX1_gate wsX1_gate) := goodIn_app (goodIn_of _ (by decide +kernel)) ggL_law_X1_gate
set_option maxRecDepth 20000 in
theorem ggL_law_L_repair : GoodIn wsL_law wsL_repair := goodIn_ca (goodIn_r _ [126, 41, 127, 128, 129, 2, 130, 103, 17, 18, 131, 47, 48, 49, 50, 51, 363, 364, 365, 366, 367, 368, 369, 370, 371, 372, 373, 374, 375, 376, 377] (by decide +kernel) (by decide +kernel)) (goodIn_sub (fun _ h => List.mem_append_left _ (List.mem_append_left _ (List.mem_append_right _ h))) (by decide +kernel))
set_option maxRecDepth 20000 in
theorem gL_law_L_repair : GoodIn wsL_law (va_wsS RL 95 yL_repair wsL_repair) := goodIn_app (goodIn_of _ (by decide +kernel)) ggL_law_L_repair
set_option maxRecDepth 20000 in
theorem ggL_law_X1_repair : GoodIn wsL_law wsX1_repair := goodIn_r _ [135, 61, 30, 31, 120, 121, 122, 5, 123, 108, 62, 63, 64, 378, 379, 380, 381, 382, 383, 384, 385, 386, 387, 388, 389, 390, 391, 392, 393, 394] (by decide +kernel) (by decide +kernel)
set_option maxRecDepth 20000 in
theorem gL_law_X1_repair : GoodIn wsL_law (wsV RL 97 RX1 yX1_repair wsX1_repair) := goodIn_app (goodIn_of _ (by decide +kernel)) ggL_law_X1_repair
set_option maxRecDepth 20000 in
theorem ggL_law_L_run : GoodIn wsL_law wsL_run := goodIn_ca (goodIn_r _ [138, 42, 139, 140, 141, 2, 142, 143, 22, 52, 53, 54, 55, 56, 363, 364, 365, 366, 367, 368, 369, 370, 371, 372, 373, 374, 375, 376, 377] (by decide +kernel) (by decide +kernel)) (goodIn_sub (fun _ h => List.mem_append_left _ (List.mem_append_right _ h)) (by decide +kernel))
set_option maxRecDepth 20000 in
theorem gL_law_L_run : GoodIn wsL_law (va_wsS RL 98 yL_run wsL_run) := goodIn_app (goodIn_of _ (by decide +kernel)) ggL_law_L_run
set_option maxRecDepth 20000 in
theorem ggL_law_X1_run : GoodIn wsL_law wsX1_run := goodIn_r _ [147, 61, 148, 32, 62, 63, 5, 64, 378, 379, 380, 381, 382, 383, 384, 385, 386, 387, 388, 389, 390, 391, 392, 393, 394] (by decide +kernel) (by decide +kernel)
set_option maxRecDepth 20000 in
theorem gL_law_X1_run : GoodIn wsL_law (wsV RL 100 RX1 yX1_run wsX1_run) := goodIn_app (goodIn_of _ (by decide +kernel)) ggL_law_X1_run
set_option maxRecDepth 20000 in
theorem ggL_law_L_limit : GoodIn wsL_law wsL_limit := goodIn_ca (goodIn_r _ [151, 42, 152, 153, 154, 2, 155, 22, 52, 53, 54, 55, 56, 363, 364, 365, 366, 367, 368, 369, 370, 371, 372, 373, 374, 375, 376, 377] (by decide +kernel) (by decide +kernel)) (goodIn_sub (fun _ h => List.mem_append_left _ (List.mem_append_right _ h)) (by decide +kernel))
set_option maxRecDepth 20000 in
theorem gL_law_L_limit : GoodIn wsL_law (va_wsS RL 101 yL_limit wsL_limit) := goodIn_app (goodIn_of _ (by decide +kernel)) ggL_law_L_limit
set_option maxRecDepth 20000 in
theorem ggL_law_X1_limit : GoodIn wsL_law wsX1_limit := goodIn_r _ [159, 61, 32, 62, 63, 5, 64, 378, 379, 380, 381, 382, 383, 384, 385, 386, 387, 388, 389, 390, 391, 392, 393, 394] (by decide +kernel) (by decide +kernel)
set_option maxRecDepth 20000 in
theorem gL_law_X1_limit : GoodIn wsL_law (wsV RL 103 RX1 yX1_limit wsX1_limit) := goodIn_app (goodIn_of _ (by decide +kernel)) ggL_law_X1_limit
set_option maxRecDepth 20000 in
theorem ggL_law_L_sell : GoodIn wsL_law wsL_sell := goodIn_ca (goodIn_ca (goodIn_ca (goodIn_r _ [162, 41, 42, 96, 163, 164, 165, 2, 166, 101, 102, 131, 21, 167, 47, 48, 49, 50, 51, 52, 53, 54, 55, 56, 168, 169, 170, 363, 364, 365, 366, 367, 368, 369, 370, 371, 372, 373, 374, 375, 376, 377] (by decide +kernel) (by decide +kernel)) (goodIn_sub (fun _ h => List.mem_append_right _ h) (by decide +kernel))) (goodIn_sub (fun _ h => List.mem_append_left _ (List.mem_append_left _ (List.mem_append_right _ h))) (by decide +kernel))) (goodIn_sub (fun _ h => List.mem_append_left _ (List.mem_append_right _ h)) (by decide +kernel))
set_option maxRecDepth 20000 in
theorem gL_law_L_sell : GoodIn wsL_law (va_wsS RL 104 yL_sell wsL_sell) := goodIn_app (goodIn_of _ (by decide +kernel)) ggL_law_L_sell
set_option maxRecDepth 20000 in
theorem ggL_law_X1_sell : GoodIn wsL_law wsX1_sell := goodIn_r _ [174, 175, 33, 61, 176, 62, 63, 5, 64, 378, 379, 380, 381, 382, 383, 384, 385, 386, 387, 388, 389, 390, 391, 392, 393, 394] (by decide +kernel) (by decide +kernel)
set_option maxRecDepth 20000 in
theorem gL_law_X1_sell : GoodIn wsL_law (wsV RL 107 RX1 yX1_sell wsX1_sell) := goodIn_app (goodIn_of _ (by decide +kernel)) ggL_law_X1_sell
set_option maxRecDepth 20000 in
theorem ggL_law_L_pass : GoodIn wsL_law wsL_pass := goodIn_ca (goodIn_ca (goodIn_r _ [179, 42, 96, 180, 181, 182, 2, 183, 101, 102, 131, 52, 53, 54, 55, 56, 184, 185, 186, 187, 188, 19, 20, 143, 189, 190, 191, 192, 14, 87, 193, 194, 195, 196, 103, 16, 18, 22, 197, 198, 199, 200, 201, 202, 203, 204, 205, 206, 207, 17, 208, 209, 210, 211, 212, 213, 214, 215, 216, 217, 218, 219, 220, 221, 222, 223, 15, 21, 167, 224, 168, 169, 170, 363, 364, 365, 366, 367, 368, 369, 370, 371, 372, 373, 374, 375, 376, 377] (by decide +kernel) (by decide +kernel)) (goodIn_sub (fun _ h => List.mem_append_right _ h) (by decide +kernel))) (goodIn_sub (fun _ h => List.mem_append_left _ (List.mem_append_right _ h)) (by decide +kernel))
set_option maxRecDepth 20000 in
theorem gL_law_L_pass : GoodIn wsL_law (va_wsS RL 108 yL_pass wsL_pass) := goodIn_app (goodIn_of _ (by decide +kernel)) ggL_law_L_pass
set_option maxRecDepth 20000 in
theorem ggL_law_X1_pass : GoodIn wsL_law wsX1_pass := goodIn_r _ [228, 175, 61, 62, 63, 5, 64, 229, 230, 231, 232, 27, 92, 148, 32, 233, 108, 31, 36, 34, 28, 33, 35, 176, 234, 235, 236, 237, 238, 30, 29, 378, 379, 380, 381, 382, 383, 384, 385, 386, 387, 388, 389, 390, 391, 392, 393, 394] (by decide +kernel) (by decide +kernel)
set_option maxRecDepth 20000 in
theorem gL_law_X1_pass : GoodIn wsL_law (wsV RL 110 RX1 yX1_pass wsX1_pass) := goodIn_app (goodIn_of _ (by decide +kernel)) ggL_law_X1_pass
set_option maxRecDepth 20000 in
theorem ggL_law_X0_now : GoodIn wsL_law wsX0_now := goodIn_r _ [242, 131, 363, 364, 365, 366, 367, 368, 369, 370, 371, 372, 373, 374, 375, 376, 377] (by decide +kernel) (by decide +kernel)
set_option maxRecDepth 20000 in
theorem gL_law_X0_now : GoodIn wsL_law (wsV RL 111 RX0 yX0_now wsX0_now) := goodIn_app (goodIn_of _ (by decide +kernel)) ggL_law_X0_now
set_option maxRecDepth 20000 in
theorem ggL_law_X1_now : GoodIn wsL_law wsX1_now := goodIn_r _ [246, 61, 175, 378, 379, 380, 381, 382, 383, 384, 385, 386, 387, 388, 389, 390, 391, 392, 393, 394] (by decide +kernel) (by decide +kernel)
set_option maxRecDepth 20000 in
theorem gL_law_X1_now : GoodIn wsL_law (wsV RL 114 RX1 yX1_now wsX1_now) := goodIn_app (goodIn_of _ (by decide +kernel)) ggL_law_X1_now
set_option maxRecDepth 20000 in
theorem ggL_law_L_made : GoodIn wsL_law wsL_made := goodIn_ca (goodIn_r _ [249, 41, 250, 251, 252, 2, 253, 131, 20, 47, 48, 49, 50, 51, 363, 364, 365, 366, 367, 368, 369, 370, 371, 372, 373, 374, 375, 376, 377] (by decide +kernel) (by decide +kernel)) (goodIn_sub (fun _ h => List.mem_append_left _ (List.mem_append_left _ (List.mem_append_right _ h))) (by decide +kernel))
set_option maxRecDepth 20000 in
theorem gL_law_L_made : GoodIn wsL_law (va_wsS RL 115 yL_made wsL_made) := goodIn_app (goodIn_of _ (by decide +kernel)) ggL_law_L_made
set_option maxRecDepth 20000 in
theorem ggL_law_X1_made : GoodIn wsL_law wsX1_made := goodIn_r _ [257, 61, 34, 258, 259, 260, 5, 261, 175, 62, 63, 64, 378, 379, 380, 381, 382, 383, 384, 385, 386, 387, 388, 389, 390, 391, 392, 393, 394] (by decide +kernel) (by decide +kernel)
set_option maxRecDepth 20000 in
theorem gL_law_X1_made : GoodIn wsL_law (wsV RL 117 RX1 yX1_made wsX1_made) := goodIn_app (goodIn_of _ (by decide +kernel)) ggL_law_X1_made
set_option maxRecDepth 20000 in
theorem ggL_law_L_madeAnew : GoodIn wsL_law wsL_madeAnew := goodIn_ca (goodIn_r _ [264, 41, 265, 266, 267, 2, 268, 131, 47, 48, 49, 50, 51, 269, 270, 271, 272, 19, 273, 274, 275, 198, 199, 200, 208, 209, 210, 201, 202, 203, 276, 277, 278, 211, 212, 213, 214, 215, 216, 217, 218, 195, 219, 363, 364, 365, 366, 367, 368, 369, 370, 371, 372, 373, 374, 375, 376, 377] (by decide +kernel) (by decide +kernel)) (goodIn_sub (fun _ h => List.mem_append_left _ (List.mem_append_left _ (List.mem_append_right _ h))) (by decide +kernel))
set_option maxRecDepth 20000 in
theorem gL_law_L_madeAnew : GoodIn wsL_law (va_wsS RL 118 yL_madeAnew wsL_madeAnew) := goodIn_app (goodIn_of _ (by decide +kernel)) ggL_law_L_madeAnew
set_option maxRecDepth 20000 in
theorem ggL_law_X1_madeAnew : GoodIn wsL_law wsX1_madeAnew := goodIn_r _ [282, 61, 34, 258, 259, 260, 5, 261, 175, 62, 63, 64, 378, 379, 380, 381, 382, 383, 384, 385, 386, 387, 388, 389, 390, 391, 392, 393, 394] (by decide +kernel) (by decide +kernel)
set_option maxRecDepth 20000 in
theorem gL_law_X1_madeAnew : GoodIn wsL_law (wsV RL 120 RX1 yX1_madeAnew wsX1_madeAnew) := goodIn_app (goodIn_of _ (by decide +kernel)) ggL_law_X1_madeAnew
set_option maxRecDepth 20000 in
theorem ggL_law_L_sold : GoodIn wsL_law wsL_sold := goodIn_ca (goodIn_r _ [285, 41, 286, 287, 288, 2, 289, 131, 21, 47, 48, 49, 50, 51, 363, 364, 365, 366, 367, 368, 369, 370, 371, 372, 373, 374, 375, 376, 377] (by decide +kernel) (by decide +kernel)) (goodIn_sub (fun _ h => List.mem_append_left _ (List.mem_append_left _ (List.mem_append_right _ h))) (by decide +kernel))
set_option maxRecDepth 20000 in
theorem gL_law_L_sold : GoodIn wsL_law (va_wsS RL 121 yL_sold wsL_sold) := goodIn_app (goodIn_of _ (by decide +kernel)) ggL_law_L_sold
set_option maxRecDepth 20000 in
theorem ggL_law_X1_sold : GoodIn wsL_law wsX1_sold := goodIn_r _ [293, 175, 61, 33, 62, 63, 5, 64, 378, 379, 380, 381, 382, 383, 384, 385, 386, 387, 388, 389, 390, 391, 392, 393, 394] (by decide +kernel) (by decide +kernel)
set_option maxRecDepth 20000 in
theorem gL_law_X1_sold : GoodIn wsL_law (wsV RL 123 RX1 yX1_sold wsX1_sold) := goodIn_app (goodIn_of _ (by decide +kernel)) ggL_law_X1_sold
set_option maxRecDepth 20000 in
theorem ggL_law_L_bought : GoodIn wsL_law wsL_bought := goodIn_ca (goodIn_r _ [296, 41, 297, 298, 299, 2, 300, 131, 21, 20, 301, 302, 195, 303, 47, 48, 49, 50, 51, 363, 364, 365, 366, 367, 368, 369, 370, 371, 372, 373, 374, 375, 376, 377] (by decide +kernel) (by decide +kernel)) (goodIn_sub (fun _ h => List.mem_append_left _ (List.mem_append_left _ (List.mem_append_right _ h))) (by decide +kernel))
set_option maxRecDepth 20000 in
theorem gL_law_L_bought : GoodIn wsL_law (va_wsS RL 124 yL_bought wsL_bought) := goodIn_app (goodIn_of _ (by decide +kernel)) ggL_law_L_bought
set_option maxRecDepth 20000 in
theorem ggL_law_X1_bought : GoodIn wsL_law wsX1_bought := goodIn_r _ [307, 61, 35, 258, 259, 260, 5, 261, 175, 62, 63, 64, 378, 379, 380, 381, 382, 383, 384, 385, 386, 387, 388, 389, 390, 391, 392, 393, 394] (by decide +kernel) (by decide +kernel)
set_option maxRecDepth 20000 in
theorem gL_law_X1_bought : GoodIn wsL_law (wsV RL 126 RX1 yX1_bought wsX1_bought) := goodIn_app (goodIn_of _ (by decide +kernel)) ggL_law_X1_bought
set_option maxRecDepth 20000 in
theorem ggL_law_L_head : GoodIn wsL_law wsL_head := goodIn_ca (goodIn_r _ [310, 41, 311, 312, 313, 2, 314, 131, 19, 47, 48, 49, 50, 51, 201, 202, 203, 363, 364, 365, 366, 367, 368, 369, 370, 371, 372, 373, 374, 375, 376, 377] (by decide +kernel) (by decide +kernel)) (goodIn_sub (fun _ h => List.mem_append_left _ (List.mem_append_left _ (List.mem_append_right _ h))) (by decide +kernel))
set_option maxRecDepth 20000 in
theorem gL_law_L_head : GoodIn wsL_law (va_wsS RL 127 yL_head wsL_head) := goodIn_app (goodIn_of _ (by decide +kernel)) ggL_law_L_head
set_option maxRecDepth 20000 in
theorem ggL_law_X1_head : GoodIn wsL_law wsX1_head := goodIn_r _ [318, 61, 36, 258, 259, 260, 5, 261, 175, 62, 63, 64, 378, 379, 380, 381, 382, 383, 384, 385, 386, 387, 388, 389, 390, 391, 392, 393, 394] (by decide +kernel) (by decide +kernel)
set_option maxRecDepth 20000 in
theorem gL_law_X1_head : GoodIn wsL_law (wsV RL 129 RX1 yX1_head wsX1_head) := goodIn_app (goodIn_of _ (by decide +kernel)) ggL_law_X1_head
set_option maxRecDepth 20000 in
theorem ggL_law_L_about : GoodIn wsL_law wsL_about := goodIn_ca (goodIn_ca (goodIn_r _ [321, 41, 42, 322, 323, 324, 2, 325, 103, 16, 17, 18, 131, 301, 302, 195, 303, 47, 48, 49, 50, 51, 52, 53, 54, 55, 56, 363, 364, 365, 366, 367, 368, 369, 370, 371, 372, 373, 374, 375, 376, 377] (by decide +kernel) (by decide +kernel)) (goodIn_sub (fun _ h => List.mem_append_left _ (List.mem_append_left _ (List.mem_append_right _ h))) (by decide +kernel))) (goodIn_sub (fun _ h => List.mem_append_left _ (List.mem_append_right _ h)) (by decide +kernel))
set_option maxRecDepth 20000 in
theorem gL_law_L_about : GoodIn wsL_law (va_wsS RL 130 yL_about wsL_about) := goodIn_app (goodIn_of _ (by decide +kernel)) ggL_law_L_about
set_option maxRecDepth 20000 in
theorem ggL_law_X1_about : GoodIn wsL_law wsX1_about := goodIn_r _ [329, 61, 29, 30, 31, 120, 121, 122, 5, 123, 108, 62, 63, 64, 378, 379, 380, 381, 382, 383, 384, 385, 386, 387, 388, 389, 390, 391, 392, 393, 394] (by decide +kernel) (by decide +kernel)
set_option maxRecDepth 20000 in
theorem gL_law_X1_about : GoodIn wsL_law (wsV RL 132 RX1 yX1_about wsX1_about) := goodIn_app (goodIn_of _ (by decide +kernel)) ggL_law_X1_about
set_option maxRecDepth 20000 in
theorem ggL_law_X0_closed : GoodIn wsL_law wsX0_closed := goodIn_r _ [333, 188, 131, 301, 302, 195, 303, 363, 364, 365, 366, 367, 368, 369, 370, 371, 372, 373, 374, 375, 376, 377] (by decide +kernel) (by decide +kernel)
set_option maxRecDepth 20000 in
theorem gL_law_X0_closed : GoodIn wsL_law (wsV RL 133 RX0 yX0_closed wsX0_closed) := goodIn_app (goodIn_of _ (by decide +kernel)) ggL_law_X0_closed
set_option maxRecDepth 20000 in
theorem ggL_law_X1_closed : GoodIn wsL_law wsX1_closed := goodIn_r _ [337, 61, 233, 378, 379, 380, 381, 382, 383, 384, 385, 386, 387, 388, 389, 390, 391, 392, 393, 394] (by decide +kernel) (by decide +kernel)
set_option maxRecDepth 20000 in
theorem gL_law_X1_closed : GoodIn wsL_law (wsV RL 136 RX1 yX1_closed wsX1_closed) := goodIn_app (goodIn_of _ (by decide +kernel)) ggL_law_X1_closed
set_option maxRecDepth 20000 in
theorem ggL_law_X0_money : GoodIn wsL_law wsX0_money := goodIn_r _ [341, 167, 342, 343, 2, 344, 224, 345, 346, 363, 364, 365, 366, 367, 368, 369, 370, 371, 372, 373, 374, 375, 376, 377] (by decide +kernel) (by decide +kernel)
set_option maxRecDepth 20000 in
theorem gL_law_X0_money : GoodIn wsL_law (wsV RL 137 RX0 yX0_money wsX0_money) := goodIn_app (goodIn_of _ (by decide +kernel)) ggL_law_X0_money
set_option maxRecDepth 20000 in
theorem ggL_law_X1_money : GoodIn wsL_law wsX1_money := goodIn_r _ [350, 61, 176, 351, 352, 353, 354, 355, 356, 357, 358, 359, 360, 361, 362, 378, 379, 380, 381, 382, 383, 384, 385, 386, 387, 388, 389, 390, 391, 392, 393, 394] (by decide +kernel) (by decide +kernel)
set_option maxRecDepth 20000 in
theorem gL_law_X1_money : GoodIn wsL_law (wsV RL 140 RX1 yX1_money wsX1_money) := goodIn_app (goodIn_of _ (by decide +kernel)) ggL_law_X1_money
theorem dL_law_0 : decode cL_law 0 = .ok (.new 8, 3) := by decide +kernel
theorem dL_law_3 : decode cL_law 3 = .ok (.dup, 1) := by decide +kernel
theorem dL_law_4 : decode cL_law 4 = .ok (.invokespecial 68, 3) := by decide +kernel
theorem dL_law_7 : decode cL_law 7 = .ok (.astore_n 1, 1) := by decide +kernel
theorem dL_law_8 : decode cL_law 8 = .ok (.new 69, 3) := by decide +kernel
theorem dL_law_11 : decode cL_law 11 = .ok (.dup, 1) := by decide +kernel
theorem dL_law_12 : decode cL_law 12 = .ok (.invokespecial 71, 3) := by decide +kernel
theorem dL_law_15 : decode cL_law 15 = .ok (.astore_n 2, 1) := by decide +kernel
theorem dL_law_16 : decode cL_law 16 = .ok (.iconst 1, 1) := by decide +kernel
theorem dL_law_17 : decode cL_law 17 = .ok (.newarray .long, 2) := by decide +kernel
theorem dL_law_19 : decode cL_law 19 = .ok (.astore_n 3, 1) := by decide +kernel
theorem dL_law_20 : decode cL_law 20 = .ok (.iconst 0, 1) := by decide +kernel
theorem dL_law_21 : decode cL_law 21 = .ok (.istore 4, 2) := by decide +kernel
theorem dL_law_23 : decode cL_law 23 = .ok (.iload 4, 2) := by decide +kernel
theorem dL_law_25 : decode cL_law 25 = .ok (.aload_n 0, 1) := by decide +kernel
theorem dL_law_26 : decode cL_law 26 = .ok (.arraylength, 1) := by decide +kernel
theorem dL_law_27 : decode cL_law 27 = .ok (.iconst 4, 1) := by decide +kernel
theorem dL_law_28 : decode cL_law 28 = .ok (.isub, 1) := by decide +kernel
theorem dL_law_29 : decode cL_law 29 = .ok (.if_icmp .gt 1107, 3) := by decide +kernel
theorem dL_law_32 : decode cL_law 32 = .ok (.aload_n 0, 1) := by decide +kernel
theorem dL_law_33 : decode cL_law 33 = .ok (.iload 4, 2) := by decide +kernel
theorem dL_law_35 : decode cL_law 35 = .ok (.iaload, 1) := by decide +kernel
theorem dL_law_36 : decode cL_law 36 = .ok (.bipush 31, 2) := by decide +kernel
theorem dL_law_38 : decode cL_law 38 = .ok (.iand, 1) := by decide +kernel
theorem dL_law_39 : decode cL_law 39 = .ok (.tableswitch 1091 0 18 #[89, 157, 225, 281, 325, 393, 449, 512, 568, 648, 704, 717, 773, 829, 885, 941, 997, 1065, 1078], 89) := by decide +kernel
theorem dL_law_128 : decode cL_law 128 = .ok (.aload_n 1, 1) := by decide +kernel
theorem dL_law_129 : decode cL_law 129 = .ok (.aload_n 0, 1) := by decide +kernel
theorem dL_law_130 : decode cL_law 130 = .ok (.iload 4, 2) := by decide +kernel
theorem dL_law_132 : decode cL_law 132 = .ok (.iconst 1, 1) := by decide +kernel
theorem dL_law_133 : decode cL_law 133 = .ok (.iadd, 1) := by decide +kernel
theorem dL_law_134 : decode cL_law 134 = .ok (.iaload, 1) := by decide +kernel
theorem dL_law_135 : decode cL_law 135 = .ok (.aload_n 0, 1) := by decide +kernel
theorem dL_law_136 : decode cL_law 136 = .ok (.iload 4, 2) := by decide +kernel
theorem dL_law_138 : decode cL_law 138 = .ok (.iconst 2, 1) := by decide +kernel
theorem dL_law_139 : decode cL_law 139 = .ok (.iadd, 1) := by decide +kernel
theorem dL_law_140 : decode cL_law 140 = .ok (.iaload, 1) := by decide +kernel
theorem dL_law_141 : decode cL_law 141 = .ok (.aload_n 3, 1) := by decide +kernel
theorem dL_law_142 : decode cL_law 142 = .ok (.invokestatic 72, 3) := by decide +kernel
theorem dL_law_145 : decode cL_law 145 = .ok (.istore 5, 2) := by decide +kernel
theorem dL_law_147 : decode cL_law 147 = .ok (.aload_n 2, 1) := by decide +kernel
theorem dL_law_148 : decode cL_law 148 = .ok (.aload_n 0, 1) := by decide +kernel
theorem dL_law_149 : decode cL_law 149 = .ok (.iload 4, 2) := by decide +kernel
theorem dL_law_151 : decode cL_law 151 = .ok (.iconst 1, 1) := by decide +kernel
theorem dL_law_152 : decode cL_law 152 = .ok (.iadd, 1) := by decide +kernel
theorem dL_law_153 : decode cL_law 153 = .ok (.iaload, 1) := by decide +kernel
theorem dL_law_154 : decode cL_law 154 = .ok (.aload_n 0, 1) := by decide +kernel
theorem dL_law_155 : decode cL_law 155 = .ok (.iload 4, 2) := by decide +kernel
theorem dL_law_157 : decode cL_law 157 = .ok (.iconst 2, 1) := by decide +kernel
theorem dL_law_158 : decode cL_law 158 = .ok (.iadd, 1) := by decide +kernel
theorem dL_law_159 : decode cL_law 159 = .ok (.iaload, 1) := by decide +kernel
theorem dL_law_160 : decode cL_law 160 = .ok (.invokevirtual 77, 3) := by decide +kernel
theorem dL_law_163 : decode cL_law 163 = .ok (.istore 6, 2) := by decide +kernel
theorem dL_law_165 : decode cL_law 165 = .ok (.aload_n 2, 1) := by decide +kernel
theorem dL_law_166 : decode cL_law 166 = .ok (.invokevirtual 78, 3) := by decide +kernel
theorem dL_law_169 : decode cL_law 169 = .ok (.iload 5, 2) := by decide +kernel
theorem dL_law_171 : decode cL_law 171 = .ok (.if_icmp .eq 5, 3) := by decide +kernel
theorem dL_law_174 : decode cL_law 174 = .ok (.iconst 0, 1) := by decide +kernel
theorem dL_law_175 : decode cL_law 175 = .ok (.ireturn, 1) := by decide +kernel
theorem dL_law_176 : decode cL_law 176 = .ok (.iload 5, 2) := by decide +kernel
theorem dL_law_178 : decode cL_law 178 = .ok (.ifCond .ne 15, 3) := by decide +kernel
theorem dL_law_181 : decode cL_law 181 = .ok (.aload_n 3, 1) := by decide +kernel
theorem dL_law_182 : decode cL_law 182 = .ok (.iconst 0, 1) := by decide +kernel
theorem dL_law_183 : decode cL_law 183 = .ok (.laload, 1) := by decide +kernel
theorem dL_law_184 : decode cL_law 184 = .ok (.iload 6, 2) := by decide +kernel
theorem dL_law_186 : decode cL_law 186 = .ok (.i2l, 1) := by decide +kernel
theorem dL_law_187 : decode cL_law 187 = .ok (.lcmp, 1) := by decide +kernel
theorem dL_law_188 : decode cL_law 188 = .ok (.ifCond .eq 5, 3) := by decide +kernel
theorem dL_law_191 : decode cL_law 191 = .ok (.iconst 0, 1) := by decide +kernel
theorem dL_law_192 : decode cL_law 192 = .ok (.ireturn, 1) := by decide +kernel
theorem dL_law_193 : decode cL_law 193 = .ok (.goto 937, 3) := by decide +kernel
theorem dL_law_196 : decode cL_law 196 = .ok (.aload_n 1, 1) := by decide +kernel
theorem dL_law_197 : decode cL_law 197 = .ok (.aload_n 0, 1) := by decide +kernel
theorem dL_law_198 : decode cL_law 198 = .ok (.iload 4, 2) := by decide +kernel
theorem dL_law_200 : decode cL_law 200 = .ok (.iconst 1, 1) := by decide +kernel
theorem dL_law_201 : decode cL_law 201 = .ok (.iadd, 1) := by decide +kernel
theorem dL_law_202 : decode cL_law 202 = .ok (.iaload, 1) := by decide +kernel
theorem dL_law_203 : decode cL_law 203 = .ok (.aload_n 0, 1) := by decide +kernel
theorem dL_law_204 : decode cL_law 204 = .ok (.iload 4, 2) := by decide +kernel
theorem dL_law_206 : decode cL_law 206 = .ok (.iconst 2, 1) := by decide +kernel
theorem dL_law_207 : decode cL_law 207 = .ok (.iadd, 1) := by decide +kernel
theorem dL_law_208 : decode cL_law 208 = .ok (.iaload, 1) := by decide +kernel
theorem dL_law_209 : decode cL_law 209 = .ok (.aload_n 3, 1) := by decide +kernel
theorem dL_law_210 : decode cL_law 210 = .ok (.invokestatic 81, 3) := by decide +kernel
theorem dL_law_213 : decode cL_law 213 = .ok (.istore 5, 2) := by decide +kernel
theorem dL_law_215 : decode cL_law 215 = .ok (.aload_n 2, 1) := by decide +kernel
theorem dL_law_216 : decode cL_law 216 = .ok (.aload_n 0, 1) := by decide +kernel
theorem dL_law_217 : decode cL_law 217 = .ok (.iload 4, 2) := by decide +kernel
theorem dL_law_219 : decode cL_law 219 = .ok (.iconst 1, 1) := by decide +kernel
theorem dL_law_220 : decode cL_law 220 = .ok (.iadd, 1) := by decide +kernel
theorem dL_law_221 : decode cL_law 221 = .ok (.iaload, 1) := by decide +kernel
theorem dL_law_222 : decode cL_law 222 = .ok (.aload_n 0, 1) := by decide +kernel
theorem dL_law_223 : decode cL_law 223 = .ok (.iload 4, 2) := by decide +kernel
theorem dL_law_225 : decode cL_law 225 = .ok (.iconst 2, 1) := by decide +kernel
theorem dL_law_226 : decode cL_law 226 = .ok (.iadd, 1) := by decide +kernel
theorem dL_law_227 : decode cL_law 227 = .ok (.iaload, 1) := by decide +kernel
theorem dL_law_228 : decode cL_law 228 = .ok (.invokevirtual 83, 3) := by decide +kernel
theorem dL_law_231 : decode cL_law 231 = .ok (.istore 6, 2) := by decide +kernel
theorem dL_law_233 : decode cL_law 233 = .ok (.aload_n 2, 1) := by decide +kernel
theorem dL_law_234 : decode cL_law 234 = .ok (.invokevirtual 78, 3) := by decide +kernel
theorem dL_law_237 : decode cL_law 237 = .ok (.iload 5, 2) := by decide +kernel
theorem dL_law_239 : decode cL_law 239 = .ok (.if_icmp .eq 5, 3) := by decide +kernel
theorem dL_law_242 : decode cL_law 242 = .ok (.iconst 0, 1) := by decide +kernel
theorem dL_law_243 : decode cL_law 243 = .ok (.ireturn, 1) := by decide +kernel
theorem dL_law_244 : decode cL_law 244 = .ok (.iload 5, 2) := by decide +kernel
theorem dL_law_246 : decode cL_law 246 = .ok (.ifCond .ne 15, 3) := by decide +kernel
theorem dL_law_249 : decode cL_law 249 = .ok (.aload_n 3, 1) := by decide +kernel
theorem dL_law_250 : decode cL_law 250 = .ok (.iconst 0, 1) := by decide +kernel
theorem dL_law_251 : decode cL_law 251 = .ok (.laload, 1) := by decide +kernel
theorem dL_law_252 : decode cL_law 252 = .ok (.iload 6, 2) := by decide +kernel
theorem dL_law_254 : decode cL_law 254 = .ok (.i2l, 1) := by decide +kernel
theorem dL_law_255 : decode cL_law 255 = .ok (.lcmp, 1) := by decide +kernel
theorem dL_law_256 : decode cL_law 256 = .ok (.ifCond .eq 5, 3) := by decide +kernel
theorem dL_law_259 : decode cL_law 259 = .ok (.iconst 0, 1) := by decide +kernel
theorem dL_law_260 : decode cL_law 260 = .ok (.ireturn, 1) := by decide +kernel
theorem dL_law_261 : decode cL_law 261 = .ok (.goto 869, 3) := by decide +kernel
theorem dL_law_264 : decode cL_law 264 = .ok (.aload_n 1, 1) := by decide +kernel
theorem dL_law_265 : decode cL_law 265 = .ok (.aload_n 0, 1) := by decide +kernel
theorem dL_law_266 : decode cL_law 266 = .ok (.iload 4, 2) := by decide +kernel
theorem dL_law_268 : decode cL_law 268 = .ok (.iconst 1, 1) := by decide +kernel
theorem dL_law_269 : decode cL_law 269 = .ok (.iadd, 1) := by decide +kernel
theorem dL_law_270 : decode cL_law 270 = .ok (.iaload, 1) := by decide +kernel
theorem dL_law_271 : decode cL_law 271 = .ok (.aload_n 3, 1) := by decide +kernel
theorem dL_law_272 : decode cL_law 272 = .ok (.invokestatic 84, 3) := by decide +kernel
theorem dL_law_275 : decode cL_law 275 = .ok (.istore 5, 2) := by decide +kernel
theorem dL_law_277 : decode cL_law 277 = .ok (.aload_n 2, 1) := by decide +kernel
theorem dL_law_278 : decode cL_law 278 = .ok (.aload_n 0, 1) := by decide +kernel
theorem dL_law_279 : decode cL_law 279 = .ok (.iload 4, 2) := by decide +kernel
theorem dL_law_281 : decode cL_law 281 = .ok (.iconst 1, 1) := by decide +kernel
theorem dL_law_282 : decode cL_law 282 = .ok (.iadd, 1) := by decide +kernel
theorem dL_law_283 : decode cL_law 283 = .ok (.iaload, 1) := by decide +kernel
theorem dL_law_284 : decode cL_law 284 = .ok (.invokevirtual 87, 3) := by decide +kernel
theorem dL_law_287 : decode cL_law 287 = .ok (.istore 6, 2) := by decide +kernel
theorem dL_law_289 : decode cL_law 289 = .ok (.aload_n 2, 1) := by decide +kernel
theorem dL_law_290 : decode cL_law 290 = .ok (.invokevirtual 78, 3) := by decide +kernel
theorem dL_law_293 : decode cL_law 293 = .ok (.iload 5, 2) := by decide +kernel
theorem dL_law_295 : decode cL_law 295 = .ok (.if_icmp .eq 5, 3) := by decide +kernel
theorem dL_law_298 : decode cL_law 298 = .ok (.iconst 0, 1) := by decide +kernel
theorem dL_law_299 : decode cL_law 299 = .ok (.ireturn, 1) := by decide +kernel
theorem dL_law_300 : decode cL_law 300 = .ok (.iload 5, 2) := by decide +kernel
theorem dL_law_302 : decode cL_law 302 = .ok (.ifCond .ne 15, 3) := by decide +kernel
theorem dL_law_305 : decode cL_law 305 = .ok (.aload_n 3, 1) := by decide +kernel
theorem dL_law_306 : decode cL_law 306 = .ok (.iconst 0, 1) := by decide +kernel
theorem dL_law_307 : decode cL_law 307 = .ok (.laload, 1) := by decide +kernel
theorem dL_law_308 : decode cL_law 308 = .ok (.iload 6, 2) := by decide +kernel
theorem dL_law_310 : decode cL_law 310 = .ok (.i2l, 1) := by decide +kernel
theorem dL_law_311 : decode cL_law 311 = .ok (.lcmp, 1) := by decide +kernel
theorem dL_law_312 : decode cL_law 312 = .ok (.ifCond .eq 5, 3) := by decide +kernel
theorem dL_law_315 : decode cL_law 315 = .ok (.iconst 0, 1) := by decide +kernel
theorem dL_law_316 : decode cL_law 316 = .ok (.ireturn, 1) := by decide +kernel
theorem dL_law_317 : decode cL_law 317 = .ok (.goto 813, 3) := by decide +kernel
theorem dL_law_320 : decode cL_law 320 = .ok (.aload_n 1, 1) := by decide +kernel
theorem dL_law_321 : decode cL_law 321 = .ok (.aload_n 3, 1) := by decide +kernel
theorem dL_law_322 : decode cL_law 322 = .ok (.invokestatic 88, 3) := by decide +kernel
theorem dL_law_325 : decode cL_law 325 = .ok (.istore 5, 2) := by decide +kernel
theorem dL_law_327 : decode cL_law 327 = .ok (.aload_n 2, 1) := by decide +kernel
theorem dL_law_328 : decode cL_law 328 = .ok (.invokevirtual 91, 3) := by decide +kernel
theorem dL_law_331 : decode cL_law 331 = .ok (.istore 6, 2) := by decide +kernel
theorem dL_law_333 : decode cL_law 333 = .ok (.aload_n 2, 1) := by decide +kernel
theorem dL_law_334 : decode cL_law 334 = .ok (.invokevirtual 78, 3) := by decide +kernel
theorem dL_law_337 : decode cL_law 337 = .ok (.iload 5, 2) := by decide +kernel
theorem dL_law_339 : decode cL_law 339 = .ok (.if_icmp .eq 5, 3) := by decide +kernel
theorem dL_law_342 : decode cL_law 342 = .ok (.iconst 0, 1) := by decide +kernel
theorem dL_law_343 : decode cL_law 343 = .ok (.ireturn, 1) := by decide +kernel
theorem dL_law_344 : decode cL_law 344 = .ok (.iload 5, 2) := by decide +kernel
theorem dL_law_346 : decode cL_law 346 = .ok (.ifCond .ne 15, 3) := by decide +kernel
theorem dL_law_349 : decode cL_law 349 = .ok (.aload_n 3, 1) := by decide +kernel
theorem dL_law_350 : decode cL_law 350 = .ok (.iconst 0, 1) := by decide +kernel
theorem dL_law_351 : decode cL_law 351 = .ok (.laload, 1) := by decide +kernel
theorem dL_law_352 : decode cL_law 352 = .ok (.iload 6, 2) := by decide +kernel
theorem dL_law_354 : decode cL_law 354 = .ok (.i2l, 1) := by decide +kernel
theorem dL_law_355 : decode cL_law 355 = .ok (.lcmp, 1) := by decide +kernel
theorem dL_law_356 : decode cL_law 356 = .ok (.ifCond .eq 5, 3) := by decide +kernel
theorem dL_law_359 : decode cL_law 359 = .ok (.iconst 0, 1) := by decide +kernel
theorem dL_law_360 : decode cL_law 360 = .ok (.ireturn, 1) := by decide +kernel
theorem dL_law_361 : decode cL_law 361 = .ok (.goto 769, 3) := by decide +kernel
theorem dL_law_364 : decode cL_law 364 = .ok (.aload_n 1, 1) := by decide +kernel
theorem dL_law_365 : decode cL_law 365 = .ok (.aload_n 0, 1) := by decide +kernel
theorem dL_law_366 : decode cL_law 366 = .ok (.iload 4, 2) := by decide +kernel
theorem dL_law_368 : decode cL_law 368 = .ok (.iconst 1, 1) := by decide +kernel
theorem dL_law_369 : decode cL_law 369 = .ok (.iadd, 1) := by decide +kernel
theorem dL_law_370 : decode cL_law 370 = .ok (.iaload, 1) := by decide +kernel
theorem dL_law_371 : decode cL_law 371 = .ok (.aload_n 0, 1) := by decide +kernel
theorem dL_law_372 : decode cL_law 372 = .ok (.iload 4, 2) := by decide +kernel
theorem dL_law_374 : decode cL_law 374 = .ok (.iconst 2, 1) := by decide +kernel
theorem dL_law_375 : decode cL_law 375 = .ok (.iadd, 1) := by decide +kernel
theorem dL_law_376 : decode cL_law 376 = .ok (.iaload, 1) := by decide +kernel
theorem dL_law_377 : decode cL_law 377 = .ok (.aload_n 3, 1) := by decide +kernel
theorem dL_law_378 : decode cL_law 378 = .ok (.invokestatic 92, 3) := by decide +kernel
theorem dL_law_381 : decode cL_law 381 = .ok (.istore 5, 2) := by decide +kernel
theorem dL_law_383 : decode cL_law 383 = .ok (.aload_n 2, 1) := by decide +kernel
theorem dL_law_384 : decode cL_law 384 = .ok (.aload_n 0, 1) := by decide +kernel
theorem dL_law_385 : decode cL_law 385 = .ok (.iload 4, 2) := by decide +kernel
theorem dL_law_387 : decode cL_law 387 = .ok (.iconst 1, 1) := by decide +kernel
theorem dL_law_388 : decode cL_law 388 = .ok (.iadd, 1) := by decide +kernel
theorem dL_law_389 : decode cL_law 389 = .ok (.iaload, 1) := by decide +kernel
theorem dL_law_390 : decode cL_law 390 = .ok (.aload_n 0, 1) := by decide +kernel
theorem dL_law_391 : decode cL_law 391 = .ok (.iload 4, 2) := by decide +kernel
theorem dL_law_393 : decode cL_law 393 = .ok (.iconst 2, 1) := by decide +kernel
theorem dL_law_394 : decode cL_law 394 = .ok (.iadd, 1) := by decide +kernel
theorem dL_law_395 : decode cL_law 395 = .ok (.iaload, 1) := by decide +kernel
theorem dL_law_396 : decode cL_law 396 = .ok (.invokevirtual 94, 3) := by decide +kernel
theorem dL_law_399 : decode cL_law 399 = .ok (.istore 6, 2) := by decide +kernel
theorem dL_law_401 : decode cL_law 401 = .ok (.aload_n 2, 1) := by decide +kernel
theorem dL_law_402 : decode cL_law 402 = .ok (.invokevirtual 78, 3) := by decide +kernel
theorem dL_law_405 : decode cL_law 405 = .ok (.iload 5, 2) := by decide +kernel
theorem dL_law_407 : decode cL_law 407 = .ok (.if_icmp .eq 5, 3) := by decide +kernel
theorem dL_law_410 : decode cL_law 410 = .ok (.iconst 0, 1) := by decide +kernel
theorem dL_law_411 : decode cL_law 411 = .ok (.ireturn, 1) := by decide +kernel
theorem dL_law_412 : decode cL_law 412 = .ok (.iload 5, 2) := by decide +kernel
theorem dL_law_414 : decode cL_law 414 = .ok (.ifCond .ne 15, 3) := by decide +kernel
theorem dL_law_417 : decode cL_law 417 = .ok (.aload_n 3, 1) := by decide +kernel
theorem dL_law_418 : decode cL_law 418 = .ok (.iconst 0, 1) := by decide +kernel
theorem dL_law_419 : decode cL_law 419 = .ok (.laload, 1) := by decide +kernel
theorem dL_law_420 : decode cL_law 420 = .ok (.iload 6, 2) := by decide +kernel
theorem dL_law_422 : decode cL_law 422 = .ok (.i2l, 1) := by decide +kernel
theorem dL_law_423 : decode cL_law 423 = .ok (.lcmp, 1) := by decide +kernel
theorem dL_law_424 : decode cL_law 424 = .ok (.ifCond .eq 5, 3) := by decide +kernel
theorem dL_law_427 : decode cL_law 427 = .ok (.iconst 0, 1) := by decide +kernel
theorem dL_law_428 : decode cL_law 428 = .ok (.ireturn, 1) := by decide +kernel
theorem dL_law_429 : decode cL_law 429 = .ok (.goto 701, 3) := by decide +kernel
theorem dL_law_432 : decode cL_law 432 = .ok (.aload_n 1, 1) := by decide +kernel
theorem dL_law_433 : decode cL_law 433 = .ok (.aload_n 0, 1) := by decide +kernel
theorem dL_law_434 : decode cL_law 434 = .ok (.iload 4, 2) := by decide +kernel
theorem dL_law_436 : decode cL_law 436 = .ok (.iconst 1, 1) := by decide +kernel
theorem dL_law_437 : decode cL_law 437 = .ok (.iadd, 1) := by decide +kernel
theorem dL_law_438 : decode cL_law 438 = .ok (.iaload, 1) := by decide +kernel
theorem dL_law_439 : decode cL_law 439 = .ok (.aload_n 3, 1) := by decide +kernel
theorem dL_law_440 : decode cL_law 440 = .ok (.invokestatic 95, 3) := by decide +kernel
theorem dL_law_443 : decode cL_law 443 = .ok (.istore 5, 2) := by decide +kernel
theorem dL_law_445 : decode cL_law 445 = .ok (.aload_n 2, 1) := by decide +kernel
theorem dL_law_446 : decode cL_law 446 = .ok (.aload_n 0, 1) := by decide +kernel
theorem dL_law_447 : decode cL_law 447 = .ok (.iload 4, 2) := by decide +kernel
theorem dL_law_449 : decode cL_law 449 = .ok (.iconst 1, 1) := by decide +kernel
theorem dL_law_450 : decode cL_law 450 = .ok (.iadd, 1) := by decide +kernel
theorem dL_law_451 : decode cL_law 451 = .ok (.iaload, 1) := by decide +kernel
theorem dL_law_452 : decode cL_law 452 = .ok (.invokevirtual 97, 3) := by decide +kernel
theorem dL_law_455 : decode cL_law 455 = .ok (.istore 6, 2) := by decide +kernel
theorem dL_law_457 : decode cL_law 457 = .ok (.aload_n 2, 1) := by decide +kernel
theorem dL_law_458 : decode cL_law 458 = .ok (.invokevirtual 78, 3) := by decide +kernel
theorem dL_law_461 : decode cL_law 461 = .ok (.iload 5, 2) := by decide +kernel
theorem dL_law_463 : decode cL_law 463 = .ok (.if_icmp .eq 5, 3) := by decide +kernel
theorem dL_law_466 : decode cL_law 466 = .ok (.iconst 0, 1) := by decide +kernel
theorem dL_law_467 : decode cL_law 467 = .ok (.ireturn, 1) := by decide +kernel
theorem dL_law_468 : decode cL_law 468 = .ok (.iload 5, 2) := by decide +kernel
theorem dL_law_470 : decode cL_law 470 = .ok (.ifCond .ne 15, 3) := by decide +kernel
theorem dL_law_473 : decode cL_law 473 = .ok (.aload_n 3, 1) := by decide +kernel
theorem dL_law_474 : decode cL_law 474 = .ok (.iconst 0, 1) := by decide +kernel
theorem dL_law_475 : decode cL_law 475 = .ok (.laload, 1) := by decide +kernel
theorem dL_law_476 : decode cL_law 476 = .ok (.iload 6, 2) := by decide +kernel
theorem dL_law_478 : decode cL_law 478 = .ok (.i2l, 1) := by decide +kernel
theorem dL_law_479 : decode cL_law 479 = .ok (.lcmp, 1) := by decide +kernel
theorem dL_law_480 : decode cL_law 480 = .ok (.ifCond .eq 5, 3) := by decide +kernel
theorem dL_law_483 : decode cL_law 483 = .ok (.iconst 0, 1) := by decide +kernel
theorem dL_law_484 : decode cL_law 484 = .ok (.ireturn, 1) := by decide +kernel
theorem dL_law_485 : decode cL_law 485 = .ok (.goto 645, 3) := by decide +kernel
theorem dL_law_488 : decode cL_law 488 = .ok (.aload_n 1, 1) := by decide +kernel
theorem dL_law_489 : decode cL_law 489 = .ok (.aload_n 0, 1) := by decide +kernel
theorem dL_law_490 : decode cL_law 490 = .ok (.iload 4, 2) := by decide +kernel
theorem dL_law_492 : decode cL_law 492 = .ok (.iconst 1, 1) := by decide +kernel
theorem dL_law_493 : decode cL_law 493 = .ok (.iadd, 1) := by decide +kernel
theorem dL_law_494 : decode cL_law 494 = .ok (.iaload, 1) := by decide +kernel
theorem dL_law_495 : decode cL_law 495 = .ok (.aload_n 3, 1) := by decide +kernel
theorem dL_law_496 : decode cL_law 496 = .ok (.invokestatic 98, 3) := by decide +kernel
theorem dL_law_499 : decode cL_law 499 = .ok (.istore 5, 2) := by decide +kernel
theorem dL_law_501 : decode cL_law 501 = .ok (.aload_n 2, 1) := by decide +kernel
theorem dL_law_502 : decode cL_law 502 = .ok (.aload_n 0, 1) := by decide +kernel
theorem dL_law_503 : decode cL_law 503 = .ok (.iload 4, 2) := by decide +kernel
theorem dL_law_505 : decode cL_law 505 = .ok (.iconst 1, 1) := by decide +kernel
theorem dL_law_506 : decode cL_law 506 = .ok (.iadd, 1) := by decide +kernel
theorem dL_law_507 : decode cL_law 507 = .ok (.iaload, 1) := by decide +kernel
theorem dL_law_508 : decode cL_law 508 = .ok (.invokevirtual 100, 3) := by decide +kernel
theorem dL_law_511 : decode cL_law 511 = .ok (.istore 6, 2) := by decide +kernel
theorem dL_law_513 : decode cL_law 513 = .ok (.aload_n 2, 1) := by decide +kernel
theorem dL_law_514 : decode cL_law 514 = .ok (.invokevirtual 78, 3) := by decide +kernel
theorem dL_law_517 : decode cL_law 517 = .ok (.iload 5, 2) := by decide +kernel
theorem dL_law_519 : decode cL_law 519 = .ok (.if_icmp .eq 5, 3) := by decide +kernel
theorem dL_law_522 : decode cL_law 522 = .ok (.iconst 0, 1) := by decide +kernel
theorem dL_law_523 : decode cL_law 523 = .ok (.ireturn, 1) := by decide +kernel
theorem dL_law_524 : decode cL_law 524 = .ok (.iload 5, 2) := by decide +kernel
theorem dL_law_526 : decode cL_law 526 = .ok (.ifCond .ne 22, 3) := by decide +kernel
theorem dL_law_529 : decode cL_law 529 = .ok (.aload_n 3, 1) := by decide +kernel
theorem dL_law_530 : decode cL_law 530 = .ok (.iconst 0, 1) := by decide +kernel
theorem dL_law_531 : decode cL_law 531 = .ok (.laload, 1) := by decide +kernel
theorem dL_law_532 : decode cL_law 532 = .ok (.iload 6, 2) := by decide +kernel
theorem dL_law_534 : decode cL_law 534 = .ok (.ifCond .eq 7, 3) := by decide +kernel
theorem dL_law_537 : decode cL_law 537 = .ok (.lconst 1, 1) := by decide +kernel
theorem dL_law_538 : decode cL_law 538 = .ok (.goto 4, 3) := by decide +kernel
theorem dL_law_541 : decode cL_law 541 = .ok (.lconst 0, 1) := by decide +kernel
theorem dL_law_542 : decode cL_law 542 = .ok (.lcmp, 1) := by decide +kernel
theorem dL_law_543 : decode cL_law 543 = .ok (.ifCond .eq 5, 3) := by decide +kernel
theorem dL_law_546 : decode cL_law 546 = .ok (.iconst 0, 1) := by decide +kernel
theorem dL_law_547 : decode cL_law 547 = .ok (.ireturn, 1) := by decide +kernel
theorem dL_law_548 : decode cL_law 548 = .ok (.goto 582, 3) := by decide +kernel
theorem dL_law_551 : decode cL_law 551 = .ok (.aload_n 1, 1) := by decide +kernel
theorem dL_law_552 : decode cL_law 552 = .ok (.aload_n 0, 1) := by decide +kernel
theorem dL_law_553 : decode cL_law 553 = .ok (.iload 4, 2) := by decide +kernel
theorem dL_law_555 : decode cL_law 555 = .ok (.iconst 1, 1) := by decide +kernel
theorem dL_law_556 : decode cL_law 556 = .ok (.iadd, 1) := by decide +kernel
theorem dL_law_557 : decode cL_law 557 = .ok (.iaload, 1) := by decide +kernel
theorem dL_law_558 : decode cL_law 558 = .ok (.aload_n 3, 1) := by decide +kernel
theorem dL_law_559 : decode cL_law 559 = .ok (.invokestatic 101, 3) := by decide +kernel
theorem dL_law_562 : decode cL_law 562 = .ok (.istore 5, 2) := by decide +kernel
theorem dL_law_564 : decode cL_law 564 = .ok (.aload_n 2, 1) := by decide +kernel
theorem dL_law_565 : decode cL_law 565 = .ok (.aload_n 0, 1) := by decide +kernel
theorem dL_law_566 : decode cL_law 566 = .ok (.iload 4, 2) := by decide +kernel
theorem dL_law_568 : decode cL_law 568 = .ok (.iconst 1, 1) := by decide +kernel
theorem dL_law_569 : decode cL_law 569 = .ok (.iadd, 1) := by decide +kernel
theorem dL_law_570 : decode cL_law 570 = .ok (.iaload, 1) := by decide +kernel
theorem dL_law_571 : decode cL_law 571 = .ok (.invokevirtual 103, 3) := by decide +kernel
theorem dL_law_574 : decode cL_law 574 = .ok (.istore 6, 2) := by decide +kernel
theorem dL_law_576 : decode cL_law 576 = .ok (.aload_n 2, 1) := by decide +kernel
theorem dL_law_577 : decode cL_law 577 = .ok (.invokevirtual 78, 3) := by decide +kernel
theorem dL_law_580 : decode cL_law 580 = .ok (.iload 5, 2) := by decide +kernel
theorem dL_law_582 : decode cL_law 582 = .ok (.if_icmp .eq 5, 3) := by decide +kernel
theorem dL_law_585 : decode cL_law 585 = .ok (.iconst 0, 1) := by decide +kernel
theorem dL_law_586 : decode cL_law 586 = .ok (.ireturn, 1) := by decide +kernel
theorem dL_law_587 : decode cL_law 587 = .ok (.iload 5, 2) := by decide +kernel
theorem dL_law_589 : decode cL_law 589 = .ok (.ifCond .ne 15, 3) := by decide +kernel
theorem dL_law_592 : decode cL_law 592 = .ok (.aload_n 3, 1) := by decide +kernel
theorem dL_law_593 : decode cL_law 593 = .ok (.iconst 0, 1) := by decide +kernel
theorem dL_law_594 : decode cL_law 594 = .ok (.laload, 1) := by decide +kernel
theorem dL_law_595 : decode cL_law 595 = .ok (.iload 6, 2) := by decide +kernel
theorem dL_law_597 : decode cL_law 597 = .ok (.i2l, 1) := by decide +kernel
theorem dL_law_598 : decode cL_law 598 = .ok (.lcmp, 1) := by decide +kernel
theorem dL_law_599 : decode cL_law 599 = .ok (.ifCond .eq 5, 3) := by decide +kernel
theorem dL_law_602 : decode cL_law 602 = .ok (.iconst 0, 1) := by decide +kernel
theorem dL_law_603 : decode cL_law 603 = .ok (.ireturn, 1) := by decide +kernel
theorem dL_law_604 : decode cL_law 604 = .ok (.goto 526, 3) := by decide +kernel
theorem dL_law_607 : decode cL_law 607 = .ok (.aload_n 1, 1) := by decide +kernel
theorem dL_law_608 : decode cL_law 608 = .ok (.aload_n 0, 1) := by decide +kernel
theorem dL_law_609 : decode cL_law 609 = .ok (.iload 4, 2) := by decide +kernel
theorem dL_law_611 : decode cL_law 611 = .ok (.iconst 1, 1) := by decide +kernel
theorem dL_law_612 : decode cL_law 612 = .ok (.iadd, 1) := by decide +kernel
theorem dL_law_613 : decode cL_law 613 = .ok (.iaload, 1) := by decide +kernel
theorem dL_law_614 : decode cL_law 614 = .ok (.aload_n 0, 1) := by decide +kernel
theorem dL_law_615 : decode cL_law 615 = .ok (.iload 4, 2) := by decide +kernel
theorem dL_law_617 : decode cL_law 617 = .ok (.iconst 2, 1) := by decide +kernel
theorem dL_law_618 : decode cL_law 618 = .ok (.iadd, 1) := by decide +kernel
theorem dL_law_619 : decode cL_law 619 = .ok (.iaload, 1) := by decide +kernel
theorem dL_law_620 : decode cL_law 620 = .ok (.aload_n 0, 1) := by decide +kernel
theorem dL_law_621 : decode cL_law 621 = .ok (.iload 4, 2) := by decide +kernel
theorem dL_law_623 : decode cL_law 623 = .ok (.iconst 3, 1) := by decide +kernel
theorem dL_law_624 : decode cL_law 624 = .ok (.iadd, 1) := by decide +kernel
theorem dL_law_625 : decode cL_law 625 = .ok (.iaload, 1) := by decide +kernel
theorem dL_law_626 : decode cL_law 626 = .ok (.aload_n 3, 1) := by decide +kernel
theorem dL_law_627 : decode cL_law 627 = .ok (.invokestatic 104, 3) := by decide +kernel
theorem dL_law_630 : decode cL_law 630 = .ok (.istore 5, 2) := by decide +kernel
theorem dL_law_632 : decode cL_law 632 = .ok (.aload_n 2, 1) := by decide +kernel
theorem dL_law_633 : decode cL_law 633 = .ok (.aload_n 0, 1) := by decide +kernel
theorem dL_law_634 : decode cL_law 634 = .ok (.iload 4, 2) := by decide +kernel
theorem dL_law_636 : decode cL_law 636 = .ok (.iconst 1, 1) := by decide +kernel
theorem dL_law_637 : decode cL_law 637 = .ok (.iadd, 1) := by decide +kernel
theorem dL_law_638 : decode cL_law 638 = .ok (.iaload, 1) := by decide +kernel
theorem dL_law_639 : decode cL_law 639 = .ok (.aload_n 0, 1) := by decide +kernel
theorem dL_law_640 : decode cL_law 640 = .ok (.iload 4, 2) := by decide +kernel
theorem dL_law_642 : decode cL_law 642 = .ok (.iconst 2, 1) := by decide +kernel
theorem dL_law_643 : decode cL_law 643 = .ok (.iadd, 1) := by decide +kernel
theorem dL_law_644 : decode cL_law 644 = .ok (.iaload, 1) := by decide +kernel
theorem dL_law_645 : decode cL_law 645 = .ok (.aload_n 0, 1) := by decide +kernel
theorem dL_law_646 : decode cL_law 646 = .ok (.iload 4, 2) := by decide +kernel
theorem dL_law_648 : decode cL_law 648 = .ok (.iconst 3, 1) := by decide +kernel
theorem dL_law_649 : decode cL_law 649 = .ok (.iadd, 1) := by decide +kernel
theorem dL_law_650 : decode cL_law 650 = .ok (.iaload, 1) := by decide +kernel
theorem dL_law_651 : decode cL_law 651 = .ok (.invokevirtual 107, 3) := by decide +kernel
theorem dL_law_654 : decode cL_law 654 = .ok (.istore 6, 2) := by decide +kernel
theorem dL_law_656 : decode cL_law 656 = .ok (.aload_n 2, 1) := by decide +kernel
theorem dL_law_657 : decode cL_law 657 = .ok (.invokevirtual 78, 3) := by decide +kernel
theorem dL_law_660 : decode cL_law 660 = .ok (.iload 5, 2) := by decide +kernel
theorem dL_law_662 : decode cL_law 662 = .ok (.if_icmp .eq 5, 3) := by decide +kernel
theorem dL_law_665 : decode cL_law 665 = .ok (.iconst 0, 1) := by decide +kernel
theorem dL_law_666 : decode cL_law 666 = .ok (.ireturn, 1) := by decide +kernel
theorem dL_law_667 : decode cL_law 667 = .ok (.iload 5, 2) := by decide +kernel
theorem dL_law_669 : decode cL_law 669 = .ok (.ifCond .ne 15, 3) := by decide +kernel
theorem dL_law_672 : decode cL_law 672 = .ok (.aload_n 3, 1) := by decide +kernel
theorem dL_law_673 : decode cL_law 673 = .ok (.iconst 0, 1) := by decide +kernel
theorem dL_law_674 : decode cL_law 674 = .ok (.laload, 1) := by decide +kernel
theorem dL_law_675 : decode cL_law 675 = .ok (.iload 6, 2) := by decide +kernel
theorem dL_law_677 : decode cL_law 677 = .ok (.i2l, 1) := by decide +kernel
theorem dL_law_678 : decode cL_law 678 = .ok (.lcmp, 1) := by decide +kernel
theorem dL_law_679 : decode cL_law 679 = .ok (.ifCond .eq 5, 3) := by decide +kernel
theorem dL_law_682 : decode cL_law 682 = .ok (.iconst 0, 1) := by decide +kernel
theorem dL_law_683 : decode cL_law 683 = .ok (.ireturn, 1) := by decide +kernel
theorem dL_law_684 : decode cL_law 684 = .ok (.goto 446, 3) := by decide +kernel
theorem dL_law_687 : decode cL_law 687 = .ok (.aload_n 1, 1) := by decide +kernel
theorem dL_law_688 : decode cL_law 688 = .ok (.aload_n 0, 1) := by decide +kernel
theorem dL_law_689 : decode cL_law 689 = .ok (.iload 4, 2) := by decide +kernel
theorem dL_law_691 : decode cL_law 691 = .ok (.iconst 1, 1) := by decide +kernel
theorem dL_law_692 : decode cL_law 692 = .ok (.iadd, 1) := by decide +kernel
theorem dL_law_693 : decode cL_law 693 = .ok (.iaload, 1) := by decide +kernel
theorem dL_law_694 : decode cL_law 694 = .ok (.aload_n 3, 1) := by decide +kernel
theorem dL_law_695 : decode cL_law 695 = .ok (.invokestatic 108, 3) := by decide +kernel
theorem dL_law_698 : decode cL_law 698 = .ok (.istore 5, 2) := by decide +kernel
theorem dL_law_700 : decode cL_law 700 = .ok (.aload_n 2, 1) := by decide +kernel
theorem dL_law_701 : decode cL_law 701 = .ok (.aload_n 0, 1) := by decide +kernel
theorem dL_law_702 : decode cL_law 702 = .ok (.iload 4, 2) := by decide +kernel
theorem dL_law_704 : decode cL_law 704 = .ok (.iconst 1, 1) := by decide +kernel
theorem dL_law_705 : decode cL_law 705 = .ok (.iadd, 1) := by decide +kernel
theorem dL_law_706 : decode cL_law 706 = .ok (.iaload, 1) := by decide +kernel
theorem dL_law_707 : decode cL_law 707 = .ok (.invokevirtual 110, 3) := by decide +kernel
theorem dL_law_710 : decode cL_law 710 = .ok (.istore 6, 2) := by decide +kernel
theorem dL_law_712 : decode cL_law 712 = .ok (.aload_n 2, 1) := by decide +kernel
theorem dL_law_713 : decode cL_law 713 = .ok (.invokevirtual 78, 3) := by decide +kernel
theorem dL_law_716 : decode cL_law 716 = .ok (.iload 5, 2) := by decide +kernel
theorem dL_law_718 : decode cL_law 718 = .ok (.if_icmp .eq 5, 3) := by decide +kernel
theorem dL_law_721 : decode cL_law 721 = .ok (.iconst 0, 1) := by decide +kernel
theorem dL_law_722 : decode cL_law 722 = .ok (.ireturn, 1) := by decide +kernel
theorem dL_law_723 : decode cL_law 723 = .ok (.iload 5, 2) := by decide +kernel
theorem dL_law_725 : decode cL_law 725 = .ok (.ifCond .ne 15, 3) := by decide +kernel
theorem dL_law_728 : decode cL_law 728 = .ok (.aload_n 3, 1) := by decide +kernel
theorem dL_law_729 : decode cL_law 729 = .ok (.iconst 0, 1) := by decide +kernel
theorem dL_law_730 : decode cL_law 730 = .ok (.laload, 1) := by decide +kernel
theorem dL_law_731 : decode cL_law 731 = .ok (.iload 6, 2) := by decide +kernel
theorem dL_law_733 : decode cL_law 733 = .ok (.i2l, 1) := by decide +kernel
theorem dL_law_734 : decode cL_law 734 = .ok (.lcmp, 1) := by decide +kernel
theorem dL_law_735 : decode cL_law 735 = .ok (.ifCond .eq 5, 3) := by decide +kernel
theorem dL_law_738 : decode cL_law 738 = .ok (.iconst 0, 1) := by decide +kernel
theorem dL_law_739 : decode cL_law 739 = .ok (.ireturn, 1) := by decide +kernel
theorem dL_law_740 : decode cL_law 740 = .ok (.goto 390, 3) := by decide +kernel
theorem dL_law_743 : decode cL_law 743 = .ok (.aload_n 1, 1) := by decide +kernel
theorem dL_law_744 : decode cL_law 744 = .ok (.invokevirtual 111, 3) := by decide +kernel
theorem dL_law_747 : decode cL_law 747 = .ok (.aload_n 2, 1) := by decide +kernel
theorem dL_law_748 : decode cL_law 748 = .ok (.invokevirtual 114, 3) := by decide +kernel
theorem dL_law_751 : decode cL_law 751 = .ok (.if_icmp .eq 379, 3) := by decide +kernel
theorem dL_law_754 : decode cL_law 754 = .ok (.iconst 0, 1) := by decide +kernel
theorem dL_law_755 : decode cL_law 755 = .ok (.ireturn, 1) := by decide +kernel
theorem dL_law_756 : decode cL_law 756 = .ok (.aload_n 1, 1) := by decide +kernel
theorem dL_law_757 : decode cL_law 757 = .ok (.aload_n 0, 1) := by decide +kernel
theorem dL_law_758 : decode cL_law 758 = .ok (.iload 4, 2) := by decide +kernel
theorem dL_law_760 : decode cL_law 760 = .ok (.iconst 1, 1) := by decide +kernel
theorem dL_law_761 : decode cL_law 761 = .ok (.iadd, 1) := by decide +kernel
theorem dL_law_762 : decode cL_law 762 = .ok (.iaload, 1) := by decide +kernel
theorem dL_law_763 : decode cL_law 763 = .ok (.aload_n 3, 1) := by decide +kernel
theorem dL_law_764 : decode cL_law 764 = .ok (.invokestatic 115, 3) := by decide +kernel
theorem dL_law_767 : decode cL_law 767 = .ok (.istore 5, 2) := by decide +kernel
theorem dL_law_769 : decode cL_law 769 = .ok (.aload_n 2, 1) := by decide +kernel
theorem dL_law_770 : decode cL_law 770 = .ok (.aload_n 0, 1) := by decide +kernel
theorem dL_law_771 : decode cL_law 771 = .ok (.iload 4, 2) := by decide +kernel
theorem dL_law_773 : decode cL_law 773 = .ok (.iconst 1, 1) := by decide +kernel
theorem dL_law_774 : decode cL_law 774 = .ok (.iadd, 1) := by decide +kernel
theorem dL_law_775 : decode cL_law 775 = .ok (.iaload, 1) := by decide +kernel
theorem dL_law_776 : decode cL_law 776 = .ok (.invokevirtual 117, 3) := by decide +kernel
theorem dL_law_779 : decode cL_law 779 = .ok (.istore 6, 2) := by decide +kernel
theorem dL_law_781 : decode cL_law 781 = .ok (.aload_n 2, 1) := by decide +kernel
theorem dL_law_782 : decode cL_law 782 = .ok (.invokevirtual 78, 3) := by decide +kernel
theorem dL_law_785 : decode cL_law 785 = .ok (.iload 5, 2) := by decide +kernel
theorem dL_law_787 : decode cL_law 787 = .ok (.if_icmp .eq 5, 3) := by decide +kernel
theorem dL_law_790 : decode cL_law 790 = .ok (.iconst 0, 1) := by decide +kernel
theorem dL_law_791 : decode cL_law 791 = .ok (.ireturn, 1) := by decide +kernel
theorem dL_law_792 : decode cL_law 792 = .ok (.iload 5, 2) := by decide +kernel
theorem dL_law_794 : decode cL_law 794 = .ok (.ifCond .ne 15, 3) := by decide +kernel
theorem dL_law_797 : decode cL_law 797 = .ok (.aload_n 3, 1) := by decide +kernel
theorem dL_law_798 : decode cL_law 798 = .ok (.iconst 0, 1) := by decide +kernel
theorem dL_law_799 : decode cL_law 799 = .ok (.laload, 1) := by decide +kernel
theorem dL_law_800 : decode cL_law 800 = .ok (.iload 6, 2) := by decide +kernel
theorem dL_law_802 : decode cL_law 802 = .ok (.i2l, 1) := by decide +kernel
theorem dL_law_803 : decode cL_law 803 = .ok (.lcmp, 1) := by decide +kernel
theorem dL_law_804 : decode cL_law 804 = .ok (.ifCond .eq 5, 3) := by decide +kernel
theorem dL_law_807 : decode cL_law 807 = .ok (.iconst 0, 1) := by decide +kernel
theorem dL_law_808 : decode cL_law 808 = .ok (.ireturn, 1) := by decide +kernel
theorem dL_law_809 : decode cL_law 809 = .ok (.goto 321, 3) := by decide +kernel
theorem dL_law_812 : decode cL_law 812 = .ok (.aload_n 1, 1) := by decide +kernel
theorem dL_law_813 : decode cL_law 813 = .ok (.aload_n 0, 1) := by decide +kernel
theorem dL_law_814 : decode cL_law 814 = .ok (.iload 4, 2) := by decide +kernel
theorem dL_law_816 : decode cL_law 816 = .ok (.iconst 1, 1) := by decide +kernel
theorem dL_law_817 : decode cL_law 817 = .ok (.iadd, 1) := by decide +kernel
theorem dL_law_818 : decode cL_law 818 = .ok (.iaload, 1) := by decide +kernel
theorem dL_law_819 : decode cL_law 819 = .ok (.aload_n 3, 1) := by decide +kernel
theorem dL_law_820 : decode cL_law 820 = .ok (.invokestatic 118, 3) := by decide +kernel
theorem dL_law_823 : decode cL_law 823 = .ok (.istore 5, 2) := by decide +kernel
theorem dL_law_825 : decode cL_law 825 = .ok (.aload_n 2, 1) := by decide +kernel
theorem dL_law_826 : decode cL_law 826 = .ok (.aload_n 0, 1) := by decide +kernel
theorem dL_law_827 : decode cL_law 827 = .ok (.iload 4, 2) := by decide +kernel
theorem dL_law_829 : decode cL_law 829 = .ok (.iconst 1, 1) := by decide +kernel
theorem dL_law_830 : decode cL_law 830 = .ok (.iadd, 1) := by decide +kernel
theorem dL_law_831 : decode cL_law 831 = .ok (.iaload, 1) := by decide +kernel
theorem dL_law_832 : decode cL_law 832 = .ok (.invokevirtual 120, 3) := by decide +kernel
theorem dL_law_835 : decode cL_law 835 = .ok (.istore 6, 2) := by decide +kernel
theorem dL_law_837 : decode cL_law 837 = .ok (.aload_n 2, 1) := by decide +kernel
theorem dL_law_838 : decode cL_law 838 = .ok (.invokevirtual 78, 3) := by decide +kernel
theorem dL_law_841 : decode cL_law 841 = .ok (.iload 5, 2) := by decide +kernel
theorem dL_law_843 : decode cL_law 843 = .ok (.if_icmp .eq 5, 3) := by decide +kernel
theorem dL_law_846 : decode cL_law 846 = .ok (.iconst 0, 1) := by decide +kernel
theorem dL_law_847 : decode cL_law 847 = .ok (.ireturn, 1) := by decide +kernel
theorem dL_law_848 : decode cL_law 848 = .ok (.iload 5, 2) := by decide +kernel
theorem dL_law_850 : decode cL_law 850 = .ok (.ifCond .ne 15, 3) := by decide +kernel
theorem dL_law_853 : decode cL_law 853 = .ok (.aload_n 3, 1) := by decide +kernel
theorem dL_law_854 : decode cL_law 854 = .ok (.iconst 0, 1) := by decide +kernel
theorem dL_law_855 : decode cL_law 855 = .ok (.laload, 1) := by decide +kernel
theorem dL_law_856 : decode cL_law 856 = .ok (.iload 6, 2) := by decide +kernel
theorem dL_law_858 : decode cL_law 858 = .ok (.i2l, 1) := by decide +kernel
theorem dL_law_859 : decode cL_law 859 = .ok (.lcmp, 1) := by decide +kernel
theorem dL_law_860 : decode cL_law 860 = .ok (.ifCond .eq 5, 3) := by decide +kernel
theorem dL_law_863 : decode cL_law 863 = .ok (.iconst 0, 1) := by decide +kernel
theorem dL_law_864 : decode cL_law 864 = .ok (.ireturn, 1) := by decide +kernel
theorem dL_law_865 : decode cL_law 865 = .ok (.goto 265, 3) := by decide +kernel
theorem dL_law_868 : decode cL_law 868 = .ok (.aload_n 1, 1) := by decide +kernel
theorem dL_law_869 : decode cL_law 869 = .ok (.aload_n 0, 1) := by decide +kernel
theorem dL_law_870 : decode cL_law 870 = .ok (.iload 4, 2) := by decide +kernel
theorem dL_law_872 : decode cL_law 872 = .ok (.iconst 1, 1) := by decide +kernel
theorem dL_law_873 : decode cL_law 873 = .ok (.iadd, 1) := by decide +kernel
theorem dL_law_874 : decode cL_law 874 = .ok (.iaload, 1) := by decide +kernel
theorem dL_law_875 : decode cL_law 875 = .ok (.aload_n 3, 1) := by decide +kernel
theorem dL_law_876 : decode cL_law 876 = .ok (.invokestatic 121, 3) := by decide +kernel
theorem dL_law_879 : decode cL_law 879 = .ok (.istore 5, 2) := by decide +kernel
theorem dL_law_881 : decode cL_law 881 = .ok (.aload_n 2, 1) := by decide +kernel
theorem dL_law_882 : decode cL_law 882 = .ok (.aload_n 0, 1) := by decide +kernel
theorem dL_law_883 : decode cL_law 883 = .ok (.iload 4, 2) := by decide +kernel
theorem dL_law_885 : decode cL_law 885 = .ok (.iconst 1, 1) := by decide +kernel
theorem dL_law_886 : decode cL_law 886 = .ok (.iadd, 1) := by decide +kernel
theorem dL_law_887 : decode cL_law 887 = .ok (.iaload, 1) := by decide +kernel
theorem dL_law_888 : decode cL_law 888 = .ok (.invokevirtual 123, 3) := by decide +kernel
theorem dL_law_891 : decode cL_law 891 = .ok (.istore 6, 2) := by decide +kernel
theorem dL_law_893 : decode cL_law 893 = .ok (.aload_n 2, 1) := by decide +kernel
theorem dL_law_894 : decode cL_law 894 = .ok (.invokevirtual 78, 3) := by decide +kernel
theorem dL_law_897 : decode cL_law 897 = .ok (.iload 5, 2) := by decide +kernel
theorem dL_law_899 : decode cL_law 899 = .ok (.if_icmp .eq 5, 3) := by decide +kernel
theorem dL_law_902 : decode cL_law 902 = .ok (.iconst 0, 1) := by decide +kernel
theorem dL_law_903 : decode cL_law 903 = .ok (.ireturn, 1) := by decide +kernel
theorem dL_law_904 : decode cL_law 904 = .ok (.iload 5, 2) := by decide +kernel
theorem dL_law_906 : decode cL_law 906 = .ok (.ifCond .ne 15, 3) := by decide +kernel
theorem dL_law_909 : decode cL_law 909 = .ok (.aload_n 3, 1) := by decide +kernel
theorem dL_law_910 : decode cL_law 910 = .ok (.iconst 0, 1) := by decide +kernel
theorem dL_law_911 : decode cL_law 911 = .ok (.laload, 1) := by decide +kernel
theorem dL_law_912 : decode cL_law 912 = .ok (.iload 6, 2) := by decide +kernel
theorem dL_law_914 : decode cL_law 914 = .ok (.i2l, 1) := by decide +kernel
theorem dL_law_915 : decode cL_law 915 = .ok (.lcmp, 1) := by decide +kernel
theorem dL_law_916 : decode cL_law 916 = .ok (.ifCond .eq 5, 3) := by decide +kernel
theorem dL_law_919 : decode cL_law 919 = .ok (.iconst 0, 1) := by decide +kernel
theorem dL_law_920 : decode cL_law 920 = .ok (.ireturn, 1) := by decide +kernel
theorem dL_law_921 : decode cL_law 921 = .ok (.goto 209, 3) := by decide +kernel
theorem dL_law_924 : decode cL_law 924 = .ok (.aload_n 1, 1) := by decide +kernel
theorem dL_law_925 : decode cL_law 925 = .ok (.aload_n 0, 1) := by decide +kernel
theorem dL_law_926 : decode cL_law 926 = .ok (.iload 4, 2) := by decide +kernel
theorem dL_law_928 : decode cL_law 928 = .ok (.iconst 1, 1) := by decide +kernel
theorem dL_law_929 : decode cL_law 929 = .ok (.iadd, 1) := by decide +kernel
theorem dL_law_930 : decode cL_law 930 = .ok (.iaload, 1) := by decide +kernel
theorem dL_law_931 : decode cL_law 931 = .ok (.aload_n 3, 1) := by decide +kernel
theorem dL_law_932 : decode cL_law 932 = .ok (.invokestatic 124, 3) := by decide +kernel
theorem dL_law_935 : decode cL_law 935 = .ok (.istore 5, 2) := by decide +kernel
theorem dL_law_937 : decode cL_law 937 = .ok (.aload_n 2, 1) := by decide +kernel
theorem dL_law_938 : decode cL_law 938 = .ok (.aload_n 0, 1) := by decide +kernel
theorem dL_law_939 : decode cL_law 939 = .ok (.iload 4, 2) := by decide +kernel
theorem dL_law_941 : decode cL_law 941 = .ok (.iconst 1, 1) := by decide +kernel
theorem dL_law_942 : decode cL_law 942 = .ok (.iadd, 1) := by decide +kernel
theorem dL_law_943 : decode cL_law 943 = .ok (.iaload, 1) := by decide +kernel
theorem dL_law_944 : decode cL_law 944 = .ok (.invokevirtual 126, 3) := by decide +kernel
theorem dL_law_947 : decode cL_law 947 = .ok (.istore 6, 2) := by decide +kernel
theorem dL_law_949 : decode cL_law 949 = .ok (.aload_n 2, 1) := by decide +kernel
theorem dL_law_950 : decode cL_law 950 = .ok (.invokevirtual 78, 3) := by decide +kernel
theorem dL_law_953 : decode cL_law 953 = .ok (.iload 5, 2) := by decide +kernel
theorem dL_law_955 : decode cL_law 955 = .ok (.if_icmp .eq 5, 3) := by decide +kernel
theorem dL_law_958 : decode cL_law 958 = .ok (.iconst 0, 1) := by decide +kernel
theorem dL_law_959 : decode cL_law 959 = .ok (.ireturn, 1) := by decide +kernel
theorem dL_law_960 : decode cL_law 960 = .ok (.iload 5, 2) := by decide +kernel
theorem dL_law_962 : decode cL_law 962 = .ok (.ifCond .ne 15, 3) := by decide +kernel
theorem dL_law_965 : decode cL_law 965 = .ok (.aload_n 3, 1) := by decide +kernel
theorem dL_law_966 : decode cL_law 966 = .ok (.iconst 0, 1) := by decide +kernel
theorem dL_law_967 : decode cL_law 967 = .ok (.laload, 1) := by decide +kernel
theorem dL_law_968 : decode cL_law 968 = .ok (.iload 6, 2) := by decide +kernel
theorem dL_law_970 : decode cL_law 970 = .ok (.i2l, 1) := by decide +kernel
theorem dL_law_971 : decode cL_law 971 = .ok (.lcmp, 1) := by decide +kernel
theorem dL_law_972 : decode cL_law 972 = .ok (.ifCond .eq 5, 3) := by decide +kernel
theorem dL_law_975 : decode cL_law 975 = .ok (.iconst 0, 1) := by decide +kernel
theorem dL_law_976 : decode cL_law 976 = .ok (.ireturn, 1) := by decide +kernel
theorem dL_law_977 : decode cL_law 977 = .ok (.goto 153, 3) := by decide +kernel
theorem dL_law_980 : decode cL_law 980 = .ok (.aload_n 1, 1) := by decide +kernel
theorem dL_law_981 : decode cL_law 981 = .ok (.aload_n 0, 1) := by decide +kernel
theorem dL_law_982 : decode cL_law 982 = .ok (.iload 4, 2) := by decide +kernel
theorem dL_law_984 : decode cL_law 984 = .ok (.iconst 1, 1) := by decide +kernel
theorem dL_law_985 : decode cL_law 985 = .ok (.iadd, 1) := by decide +kernel
theorem dL_law_986 : decode cL_law 986 = .ok (.iaload, 1) := by decide +kernel
theorem dL_law_987 : decode cL_law 987 = .ok (.aload_n 3, 1) := by decide +kernel
theorem dL_law_988 : decode cL_law 988 = .ok (.invokestatic 127, 3) := by decide +kernel
theorem dL_law_991 : decode cL_law 991 = .ok (.istore 5, 2) := by decide +kernel
theorem dL_law_993 : decode cL_law 993 = .ok (.aload_n 2, 1) := by decide +kernel
theorem dL_law_994 : decode cL_law 994 = .ok (.aload_n 0, 1) := by decide +kernel
theorem dL_law_995 : decode cL_law 995 = .ok (.iload 4, 2) := by decide +kernel
theorem dL_law_997 : decode cL_law 997 = .ok (.iconst 1, 1) := by decide +kernel
theorem dL_law_998 : decode cL_law 998 = .ok (.iadd, 1) := by decide +kernel
theorem dL_law_999 : decode cL_law 999 = .ok (.iaload, 1) := by decide +kernel
theorem dL_law_1000 : decode cL_law 1000 = .ok (.invokevirtual 129, 3) := by decide +kernel
theorem dL_law_1003 : decode cL_law 1003 = .ok (.istore 6, 2) := by decide +kernel
theorem dL_law_1005 : decode cL_law 1005 = .ok (.aload_n 2, 1) := by decide +kernel
theorem dL_law_1006 : decode cL_law 1006 = .ok (.invokevirtual 78, 3) := by decide +kernel
theorem dL_law_1009 : decode cL_law 1009 = .ok (.iload 5, 2) := by decide +kernel
theorem dL_law_1011 : decode cL_law 1011 = .ok (.if_icmp .eq 5, 3) := by decide +kernel
theorem dL_law_1014 : decode cL_law 1014 = .ok (.iconst 0, 1) := by decide +kernel
theorem dL_law_1015 : decode cL_law 1015 = .ok (.ireturn, 1) := by decide +kernel
theorem dL_law_1016 : decode cL_law 1016 = .ok (.iload 5, 2) := by decide +kernel
theorem dL_law_1018 : decode cL_law 1018 = .ok (.ifCond .ne 15, 3) := by decide +kernel
theorem dL_law_1021 : decode cL_law 1021 = .ok (.aload_n 3, 1) := by decide +kernel
theorem dL_law_1022 : decode cL_law 1022 = .ok (.iconst 0, 1) := by decide +kernel
theorem dL_law_1023 : decode cL_law 1023 = .ok (.laload, 1) := by decide +kernel
theorem dL_law_1024 : decode cL_law 1024 = .ok (.iload 6, 2) := by decide +kernel
theorem dL_law_1026 : decode cL_law 1026 = .ok (.i2l, 1) := by decide +kernel
theorem dL_law_1027 : decode cL_law 1027 = .ok (.lcmp, 1) := by decide +kernel
theorem dL_law_1028 : decode cL_law 1028 = .ok (.ifCond .eq 5, 3) := by decide +kernel
theorem dL_law_1031 : decode cL_law 1031 = .ok (.iconst 0, 1) := by decide +kernel
theorem dL_law_1032 : decode cL_law 1032 = .ok (.ireturn, 1) := by decide +kernel
theorem dL_law_1033 : decode cL_law 1033 = .ok (.goto 97, 3) := by decide +kernel
theorem dL_law_1036 : decode cL_law 1036 = .ok (.aload_n 1, 1) := by decide +kernel
theorem dL_law_1037 : decode cL_law 1037 = .ok (.aload_n 0, 1) := by decide +kernel
theorem dL_law_1038 : decode cL_law 1038 = .ok (.iload 4, 2) := by decide +kernel
theorem dL_law_1040 : decode cL_law 1040 = .ok (.iconst 1, 1) := by decide +kernel
theorem dL_law_1041 : decode cL_law 1041 = .ok (.iadd, 1) := by decide +kernel
theorem dL_law_1042 : decode cL_law 1042 = .ok (.iaload, 1) := by decide +kernel
theorem dL_law_1043 : decode cL_law 1043 = .ok (.aload_n 0, 1) := by decide +kernel
theorem dL_law_1044 : decode cL_law 1044 = .ok (.iload 4, 2) := by decide +kernel
theorem dL_law_1046 : decode cL_law 1046 = .ok (.iconst 2, 1) := by decide +kernel
theorem dL_law_1047 : decode cL_law 1047 = .ok (.iadd, 1) := by decide +kernel
theorem dL_law_1048 : decode cL_law 1048 = .ok (.iaload, 1) := by decide +kernel
theorem dL_law_1049 : decode cL_law 1049 = .ok (.aload_n 3, 1) := by decide +kernel
theorem dL_law_1050 : decode cL_law 1050 = .ok (.invokestatic 130, 3) := by decide +kernel
theorem dL_law_1053 : decode cL_law 1053 = .ok (.istore 5, 2) := by decide +kernel
theorem dL_law_1055 : decode cL_law 1055 = .ok (.aload_n 2, 1) := by decide +kernel
theorem dL_law_1056 : decode cL_law 1056 = .ok (.aload_n 0, 1) := by decide +kernel
theorem dL_law_1057 : decode cL_law 1057 = .ok (.iload 4, 2) := by decide +kernel
theorem dL_law_1059 : decode cL_law 1059 = .ok (.iconst 1, 1) := by decide +kernel
theorem dL_law_1060 : decode cL_law 1060 = .ok (.iadd, 1) := by decide +kernel
theorem dL_law_1061 : decode cL_law 1061 = .ok (.iaload, 1) := by decide +kernel
theorem dL_law_1062 : decode cL_law 1062 = .ok (.aload_n 0, 1) := by decide +kernel
theorem dL_law_1063 : decode cL_law 1063 = .ok (.iload 4, 2) := by decide +kernel
theorem dL_law_1065 : decode cL_law 1065 = .ok (.iconst 2, 1) := by decide +kernel
theorem dL_law_1066 : decode cL_law 1066 = .ok (.iadd, 1) := by decide +kernel
theorem dL_law_1067 : decode cL_law 1067 = .ok (.iaload, 1) := by decide +kernel
theorem dL_law_1068 : decode cL_law 1068 = .ok (.invokevirtual 132, 3) := by decide +kernel
theorem dL_law_1071 : decode cL_law 1071 = .ok (.istore 6, 2) := by decide +kernel
theorem dL_law_1073 : decode cL_law 1073 = .ok (.aload_n 2, 1) := by decide +kernel
theorem dL_law_1074 : decode cL_law 1074 = .ok (.invokevirtual 78, 3) := by decide +kernel
theorem dL_law_1077 : decode cL_law 1077 = .ok (.iload 5, 2) := by decide +kernel
theorem dL_law_1079 : decode cL_law 1079 = .ok (.if_icmp .eq 5, 3) := by decide +kernel
theorem dL_law_1082 : decode cL_law 1082 = .ok (.iconst 0, 1) := by decide +kernel
theorem dL_law_1083 : decode cL_law 1083 = .ok (.ireturn, 1) := by decide +kernel
theorem dL_law_1084 : decode cL_law 1084 = .ok (.iload 5, 2) := by decide +kernel
theorem dL_law_1086 : decode cL_law 1086 = .ok (.ifCond .ne 15, 3) := by decide +kernel
theorem dL_law_1089 : decode cL_law 1089 = .ok (.aload_n 3, 1) := by decide +kernel
theorem dL_law_1090 : decode cL_law 1090 = .ok (.iconst 0, 1) := by decide +kernel
theorem dL_law_1091 : decode cL_law 1091 = .ok (.laload, 1) := by decide +kernel
theorem dL_law_1092 : decode cL_law 1092 = .ok (.iload 6, 2) := by decide +kernel
theorem dL_law_1094 : decode cL_law 1094 = .ok (.i2l, 1) := by decide +kernel
theorem dL_law_1095 : decode cL_law 1095 = .ok (.lcmp, 1) := by decide +kernel
theorem dL_law_1096 : decode cL_law 1096 = .ok (.ifCond .eq 5, 3) := by decide +kernel
theorem dL_law_1099 : decode cL_law 1099 = .ok (.iconst 0, 1) := by decide +kernel
theorem dL_law_1100 : decode cL_law 1100 = .ok (.ireturn, 1) := by decide +kernel
theorem dL_law_1101 : decode cL_law 1101 = .ok (.goto 29, 3) := by decide +kernel
theorem dL_law_1104 : decode cL_law 1104 = .ok (.aload_n 1, 1) := by decide +kernel
theorem dL_law_1105 : decode cL_law 1105 = .ok (.invokevirtual 133, 3) := by decide +kernel
theorem dL_law_1108 : decode cL_law 1108 = .ok (.aload_n 2, 1) := by decide +kernel
theorem dL_law_1109 : decode cL_law 1109 = .ok (.invokevirtual 136, 3) := by decide +kernel
theorem dL_law_1112 : decode cL_law 1112 = .ok (.if_icmp .eq 18, 3) := by decide +kernel
theorem dL_law_1115 : decode cL_law 1115 = .ok (.iconst 0, 1) := by decide +kernel
theorem dL_law_1116 : decode cL_law 1116 = .ok (.ireturn, 1) := by decide +kernel
theorem dL_law_1117 : decode cL_law 1117 = .ok (.aload_n 1, 1) := by decide +kernel
theorem dL_law_1118 : decode cL_law 1118 = .ok (.invokevirtual 137, 3) := by decide +kernel
theorem dL_law_1121 : decode cL_law 1121 = .ok (.aload_n 2, 1) := by decide +kernel
theorem dL_law_1122 : decode cL_law 1122 = .ok (.invokevirtual 140, 3) := by decide +kernel
theorem dL_law_1125 : decode cL_law 1125 = .ok (.if_icmp .eq 5, 3) := by decide +kernel
theorem dL_law_1128 : decode cL_law 1128 = .ok (.iconst 0, 1) := by decide +kernel
theorem dL_law_1129 : decode cL_law 1129 = .ok (.ireturn, 1) := by decide +kernel
theorem dL_law_1130 : decode cL_law 1130 = .ok (.iinc 4 4, 3) := by decide +kernel
theorem dL_law_1133 : decode cL_law 1133 = .ok (.goto (-1110), 3) := by decide +kernel
theorem dL_law_1136 : decode cL_law 1136 = .ok (.iconst 1, 1) := by decide +kernel
theorem dL_law_1137 : decode cL_law 1137 = .ok (.ireturn, 1) := by decide +kernel
end
section
-- WORLDS AND STATES: what the objects of the class and of the reference hold
abbrev eI : String := "java/lang/IndexOutOfBoundsException"
abbrev eA : String := "java/lang/IllegalArgumentException"
abbrev eS : String := "java/lang/IllegalStateException"
abbrev eNs : List String := ["java/lang/RuntimeException", "java/lang/Exception"]
abbrev XS : Type := (Nat → Int32) × (Nat → Int32) × (Nat → Int32) × (Nat → Int32) × (Nat → Int32) × (Nat → Int32) × (Nat → Int32) × (Nat → Int32) × Int32 × Int32 × Int32 × Int32 × Int32 × Int32 × UInt32
abbrev MS : Type := (Nat → Int32) × (Nat → Int32) × (Nat → Int32) × (Nat → Int32) × (Nat → Int32) × (Nat → Int32) × (Nat → Int32) × (Nat → Int32) × (Nat → Int32) × Int32 × Int32 × Int32 × Int32 × Int32 × Int32 × Int32 × UInt32
/-- the class's cells: the object at A 0, its arrays at A 1 .. A 8 -/
abbrev xW (A : Nat → Nat) (cA : ClassId) (L P G V R N Y S : Nat → Int32) (wd tb ft fl ce nh : Int32) (mo : UInt32) : va_W := [(A 0, .inr (0, [.ref (A 1), .ref (A 2), .ref (A 3), .ref (A 4), .ref (A 5), .ref (A 6), .ref (A 7), .ref (A 8), .int wd, .int tb, .int ft, .int fl, .int ce, .int nh, .float mo])), (A 1, .inl (cA, 24, .inl L)), (A 2, .inl (cA, 24, .inl P)), (A 3, .inl (cA, 4, .inl G)), (A 4, .inl (cA, 4, .inl V)), (A 5, .inl (cA, 4, .inl R)), (A 6, .inl (cA, 500, .inl N)), (A 7, .inl (cA, 500, .inl Y)), (A 8, .inl (cA, 548, .inl S))]
/-- the reference's cells: the object at B 0, its arrays at B 1 .. B 9 -/
abbrev mW (B : Nat → Nat) (cA : ClassId) (L P G V R S Y O D : Nat → Int32) (th nw wd tb ft fl cl : Int32) (mo : UInt32) : va_W := [(B 0, .inr (1, [.int th, .int nw, .ref (B 1), .ref (B 2), .int wd, .int tb, .ref (B 3), .ref (B 4), .ref (B 5), .int ft, .int fl, .int cl, .ref (B 6), .ref (B 7), .ref (B 8), .ref (B 9), .float mo])), (B 1, .inl (cA, 24, .inl L)), (B 2, .inl (cA, 24, .inl P)), (B 3, .inl (cA, 4, .inl G)), (B 4, .inl (cA, 4, .inl V)), (B 5, .inl (cA, 4, .inl R)), (B 6, .inl (cA, 548, .inl S)), (B 7, .inl (cA, 500, .inl Y)), (B 8, .inl (cA, 500, .inl O)), (B 9, .inl (cA, 500, .inl D))]
abbrev xU (A : Nat → Nat) (cA : ClassId) (u : XS) : va_W := xW A cA u.1 u.2.1 u.2.2.1 u.2.2.2.1 u.2.2.2.2.1 u.2.2.2.2.2.1 u.2.2.2.2.2.2.1 u.2.2.2.2.2.2.2.1 u.2.2.2.2.2.2.2.2.1 u.2.2.2.2.2.2.2.2.2.1 u.2.2.2.2.2.2.2.2.2.2.1 u.2.2.2.2.2.2.2.2.2.2.2.1 u.2.2.2.2.2.2.2.2.2.2.2.2.1 u.2.2.2.2.2.2.2.2.2.2.2.2.2.1 u.2.2.2.2.2.2.2.2.2.2.2.2.2.2
abbrev mU (B : Nat → Nat) (cA : ClassId) (u : MS) : va_W := mW B cA u.1 u.2.1 u.2.2.1 u.2.2.2.1 u.2.2.2.2.1 u.2.2.2.2.2.1 u.2.2.2.2.2.2.1 u.2.2.2.2.2.2.2.1 u.2.2.2.2.2.2.2.2.1 u.2.2.2.2.2.2.2.2.2.1 u.2.2.2.2.2.2.2.2.2.2.1 u.2.2.2.2.2.2.2.2.2.2.2.1 u.2.2.2.2.2.2.2.2.2.2.2.2.1 u.2.2.2.2.2.2.2.2.2.2.2.2.2.1 u.2.2.2.2.2.2.2.2.2.2.2.2.2.2.1 u.2.2.2.2.2.2.2.2.2.2.2.2.2.2.2.1 u.2.2.2.2.2.2.2.2.2.2.2.2.2.2.2.2
abbrev tyI (cA : ClassId) : List (ClassId × FieldType) := [(cA, .int)]
abbrev tyL (cA cL : ClassId) : List (ClassId × FieldType) := [(cA, .int), (cL, .long)]
/-- a method's start over a world that it may change -/
abbrev wPre (dG : va_G) (tys : List (ClassId × FieldType)) (ws : va_W) (Hp : Heap) (U : State) : Prop := U.heap = Hp ∧ va_P dG vwCl ws U.heap ∧ va_K dG vwCl tys U ∧ va_D (fun _ => True) ws
/-- a world behind a method -/
abbrev wAt (dG : va_G) (tys : List (ClassId × FieldType)) (A : Nat → Prop) (ws : va_W) (t : State) : Prop := va_P dG vwCl ws t.heap ∧ va_K dG vwCl tys t ∧ va_D A ws
theorem wPre_calling {dG : va_G} {tys : List (ClassId × FieldType)} {ws : va_W} {Hp : Heap} {U : State} (g : JFrame) (mk : MethodId) (a : Array Value) (h : wPre dG tys ws Hp U) : wPre dG tys ws Hp (U.calling g mk a) := ⟨h.1, h.2.1, va_K.moved (u := U) (U := U.calling g mk a) (Vm.Alike.refl U.vm) h.2.2.1, h.2.2.2⟩
theorem wPre_of {dG : va_G} {tys : List (ClassId × FieldType)} {ws : va_W} {H : Heap} {A : Nat → Prop} {s : State} (hK : va_K dG vwCl tys s) (hP : va_P dG vwCl ws H) (hD : va_D A ws) {U : State} (hU : U.heap = H) (hW : s.WarmedH U.vm) : wPre dG tys ws H U := ⟨hU, by rw [hU]; exact hP, va_K.moved hW.alike hK, hD.weaken (fun _ _ _ _ => trivial)⟩
/-- what a throw needs of the tables: the five texts, what the three exceptions are and are not -/
def tgT (a : Nat → Nat) (U : State) : Prop :=
  (vk_R RX0 141 "no such turbine or hour" (a 0) U ∧ vk_R RX0 146 "an argument is out of its range" (a 1) U ∧ vk_R RX0 53 "no room for another turbine" (a 2) U ∧ vk_R RX0 64 "too much would be sold for the hour" (a 3) U ∧ vk_R RX0 74 "the next hour would be above the last" (a 4) U) ∧
  (va_Nw (.castable eI eI) U ∧ va_Nw (.castable eA eA) U ∧ va_Nw (.castable eS eS) U) ∧ (va_Nc eA eI U ∧ va_Nc eS eI U ∧ va_Nc eS eA U) ∧ va_Nw (.declares (Bundle.initS "java/lang/RuntimeException")) U ∧ va_Nw (.declares (Bundle.initS "java/lang/Exception")) U ∧ va_Nw (.declares (Bundle.initS Bundle.tN)) U
theorem tgT.warm {a : Nat → Nat} {s U : State} (hW : s.WarmedH U.vm) (h : tgT a s) : tgT a U := by
  obtain ⟨⟨h1, h2, h3, h4, h5⟩, ⟨c1, c2, c3⟩, ⟨n1, n2, n3⟩, d1, d2, d3⟩ := h
  exact ⟨⟨vk_R.warm hW h1, vk_R.warm hW h2, vk_R.warm hW h3, vk_R.warm hW h4, vk_R.warm hW h5⟩, ⟨va_Nw.warmC hW c1, va_Nw.warmC hW c2, va_Nw.warmC hW c3⟩, ⟨n1.moved hW.alike, n2.moved hW.alike, n3.moved hW.alike⟩, va_Nw.warmD hW d1, va_Nw.warmD hW d2, va_Nw.warmD hW d3⟩
/-- .. and of the heap: Throwable's two statics -/
def tgE (a : Nat → Nat) (A : Nat → Prop) (U : State) (H : Heap) : Prop := tgT a U ∧ vx_Zq Bundle.tN "UNASSIGNED_STACK" Bundle.steD A U H ∧ vx_Zq Bundle.tN "SUPPRESSED_SENTINEL" Bundle.listD A U H
theorem tgE.go {a : Nat → Nat} {A B : Nat → Prop} {s U : State} {H : Heap} {locs : List Loc} (h : tgE a A s s.heap) (hW : s.WarmedH U.vm) (hS : va_S A s.heap H locs) (hAB : ∀ q, B q → A q) : tgE a B U H := by
  obtain ⟨h1, h2, h3⟩ := h
  exact ⟨h1.warm hW, ((h2.moved hW.alike).kept (fun q hq hA => hS.2.1 q hq hA)).narrow hAB, ((h3.moved hW.alike).kept (fun q hq hA => hS.2.1 q hq hA)).narrow hAB⟩
theorem tgE.calling {a : Nat → Nat} {A : Nat → Prop} {U : State} {H : Heap} (g : JFrame) (mk : MethodId) (ar : Array Value) (h : tgE a A U H) : tgE a A (U.calling g mk ar) H := by
  obtain ⟨h1, h2, h3⟩ := h
  have hW : U.WarmedH (U.calling g mk ar).vm := State.WarmedH.refl U
  exact ⟨h1.warm hW, h2.moved hW.alike, h3.moved hW.alike⟩
/-- what has left by a throw: which exception, and that nothing old was written -/
def tgX (px : String → Prop) : String → State → State → Prop := vx_X (S := String) px (fun E u _ => E = u) (fun _ => False)
abbrev aNew (Hp : Heap) : Nat → Prop := fun q => Hp.size ≤ q
theorem vp_of {i b : Int32} {n : Nat} (h1 : ¬ i < 0) (h2 : ¬ b < i) (hb : b.toInt < n) : vp_in i n := by
  rw [vp_in_iff]
  rw [Int32.lt_iff_toInt_lt] at h1 h2
  have : (0 : Int32).toInt = 0 := by decide
  omega
abbrev tgB (E : String) : List Cond := [.castable E E, .declares (Bundle.initS "java/lang/RuntimeException"), .declares (Bundle.initS "java/lang/Exception"), .declares (Bundle.initS Bundle.tN)]
theorem tgT.words {a : Nat → Nat} {U : State} (h : tgT a U) (args : Array Value) : (∀ w ∈ tgB eI, w.before args U = true) ∧ (∀ w ∈ tgB eA, w.before args U = true) ∧ ∀ w ∈ tgB eS, w.before args U = true := by
  obtain ⟨-, ⟨c1, c2, c3⟩, -, d1, d2, d3⟩ := h
  exact ⟨vx_c (va_Nw.use rfl c1) (vx_c (va_Nw.use rfl d1) (vx_c (va_Nw.use rfl d2) (vx_c (va_Nw.use rfl d3) vx_n))), vx_c (va_Nw.use rfl c2) (vx_c (va_Nw.use rfl d1) (vx_c (va_Nw.use rfl d2) (vx_c (va_Nw.use rfl d3) vx_n))), vx_c (va_Nw.use rfl c3) (vx_c (va_Nw.use rfl d1) (vx_c (va_Nw.use rfl d2) (vx_c (va_Nw.use rfl d3) vx_n)))⟩
end
section
-- WHAT EACH CALL ANSWERS: 0 it returns, else which of its exceptions is due
abbrev oI (i lo hi : Int32) : Prop := i < lo ∨ hi < i
def kTide (h v : Int32) : Int32 := if oI h 0 23 then 1 else if oI v (-100) 100 then 2 else 0
def kPrice (h v : Int32) : Int32 := if oI h 0 23 then 1 else if oI v 1 200 then 2 else 0
def kWind (w : Int32) : Int32 := if oI w (-20) 20 then 1 else 0
def kTurb (tb : Int32) : Int32 := if tb < 4 then 0 else 1
def kGate (tb t g : Int32) : Int32 := if oI t 0 (tb - 1) then 1 else if oI g 0 7 then 2 else 0
def kRep (tb t : Int32) : Int32 := if oI t 0 (tb - 1) then 1 else 0
def kFish (f : Int32) : Int32 := if oI f 0 1000 then 1 else 0
def kSell (S : Nat → Int32) (nh h u q : Int32) : Int32 := if oI h nh (nh + 47) then 1 else if oI u 1 500 then 2 else if oI q 1 200 then 2 else if S h.toNatClampNeg + u ≤ 1000 then 0 else 3
def kPass (nh n : Int32) : Int32 := if oI n 1 48 then 1 else if nh + n ≤ 500 then 0 else 2
def kGone (nh h : Int32) : Int32 := if oI h 0 (nh - 1) then 1 else 0
def kSold (nh h : Int32) : Int32 := if oI h 0 (nh + 47) then 1 else 0
def kAbout (tb t w : Int32) : Int32 := if oI t 0 (tb - 1) then 1 else if oI w 0 2 then 2 else 0
-- NUMBERS
theorem i32_sub {a b : Int32} (h1 : -2147483648 ≤ a.toInt - b.toInt) (h2 : a.toInt - b.toInt < 2147483648) : (a - b).toInt = a.toInt - b.toInt := by
  rw [Int32.toInt_sub]
  exact Int.bmod_eq_of_le (by omega) (by omega)
theorem i32_add {a b : Int32} (h1 : -2147483648 ≤ a.toInt + b.toInt) (h2 : a.toInt + b.toInt < 2147483648) : (a + b).toInt = a.toInt + b.toInt := by
  rw [Int32.toInt_add]
  exact Int.bmod_eq_of_le (by omega) (by omega)
theorem i32_mul {a b : Int32} (h1 : -2147483648 ≤ a.toInt * b.toInt) (h2 : a.toInt * b.toInt < 2147483648) : (a * b).toInt = a.toInt * b.toInt := by
  rw [Int32.toInt_mul]
  exact Int.bmod_eq_of_le (by omega) (by omega)
theorem vp_out {i b : Int32} {n : Nat} (g : ¬ oI i 0 b) (hb : b.toInt < n) : vp_in i n := vp_of (fun h => g (Or.inl h)) (fun h => g (Or.inr h)) hb
theorem vp_pred {i m : Int32} {n : Nat} (g : ¬ oI i 0 (m - 1)) (h0 : 0 ≤ m.toInt) (h1 : m.toInt ≤ n) : vp_in i n := by
  have h9 : (1 : Int32).toInt = 1 := by decide
  refine vp_out g ?_
  rw [i32_sub (by omega) (by have := Int32.toInt_lt m; omega)]
  omega
theorem vp_47 {i m lo : Int32} {n : Nat} (g : ¬ oI i lo (m + 47)) (hlo : 0 ≤ lo.toInt) (h0 : 0 ≤ m.toInt) (h1 : m.toInt ≤ 500) (hn : 547 < n) : vp_in i n := by
  have h9 : (47 : Int32).toInt = 47 := by decide
  have h8 : (0 : Int32).toInt = 0 := by decide
  have e : (m + 47).toInt = m.toInt + 47 := by rw [i32_add (by omega) (by omega), h9]
  refine vp_of (fun h => g (Or.inl ?_)) (fun h => g (Or.inr h)) (by omega)
  rw [Int32.lt_iff_toInt_lt] at h ⊢
  omega
theorem nI_mod24 {n : Nat} (h : n < 1000) : nI n - nI n / 24 * 24 = nI (n % 24) := by
  have h24 : (24 : Int32).toInt = 24 := by decide
  have e1 : (nI n).toInt = (n : Int) := nI_toInt (by omega)
  have e2 : (nI (n % 24)).toInt = ((n % 24 : Nat) : Int) := nI_toInt (by omega)
  have e3 : (nI n / 24).toInt = (n : Int) / 24 := by
    rw [Int32.toInt_div_of_ne_right (nI n) 24 (by decide), e1, h24]
    exact Int.tdiv_eq_ediv_of_nonneg (by omega)
  have e4 : (nI n / 24 * 24).toInt = (n : Int) / 24 * 24 := by
    rw [i32_mul (by rw [e3, h24]; omega) (by rw [e3, h24]; omega), e3, h24]
  apply Int32.toInt_inj.mp
  rw [i32_sub (by rw [e1, e4]; omega) (by rw [e1, e4]; omega), e1, e4, e2]
  omega
end
section
-- FLOATS THAT ARE NO NaN
theorem n32_of {r : UInt32} (h : FP.Core.fIsNaN r = false) : vf_n32 r := by
  unfold vf_n32
  rw [UInt32.le_iff_toNat_le, FP.Core.mask_toNat32]
  have h1 : ¬ (2139095040 < r.toNat % 2 ^ 31) := fun q => by
    have := (FP.Core.isNaN_bits32 r).mpr q
    rw [h] at this
    cases this
  have h2 : (0x7f800000 : UInt32).toNat = 2139095040 := by decide
  omega
theorem mul_mag32 (x y : Int32) : (FP.fmul (FP.i2f x) (FP.i2f y)).toNat % 2 ^ 31 < 194 * 2 ^ 23 := by
  have h := FP.Core.fmul_mag (FP.Core.i2f_mag x) (FP.Core.i2f_mag y) (by omega) (by omega)
  exact h
theorem mul_fin (x y : Int32) : FP.Core.FFin (FP.fmul (FP.i2f x) (FP.i2f y)) := FP.Core.fin_of_lt32 (mul_mag32 x y) (by omega)
theorem half_mag32 (x y : Int32) : (FP.fmul (FP.fmul (FP.i2f x) (FP.i2f y)) 1056964608).toNat % 2 ^ 31 < 195 * 2 ^ 23 := by
  have h := FP.Core.fmul_mag (b := 1056964608) (Kb := 127) (mul_mag32 x y) (by decide) (by omega) (by omega)
  exact h
theorem half_fin (x y : Int32) : FP.Core.FFin (FP.fmul (FP.fmul (FP.i2f x) (FP.i2f y)) 1056964608) := FP.Core.fin_of_lt32 (half_mag32 x y) (by omega)
theorem nn_mul (x y : Int32) : vf_n32 (FP.fmul (FP.i2f x) (FP.i2f y)) := n32_of (mul_fin x y).notNaN
theorem nn_half (x y : Int32) : vf_n32 (FP.fmul (FP.fmul (FP.i2f x) (FP.i2f y)) 1056964608) := n32_of (half_fin x y).notNaN
theorem nn_add {m r : UInt32} (hm : FP.Core.FFin m) (hr : FP.Core.FFin r) : vf_n32 (FP.fadd m r) := n32_of (FP.Core.fadd_out' hm hr.notNaN)
theorem nn_sub {m r : UInt32} (hm : FP.Core.FFin m) (hr : FP.Core.FFin r) : vf_n32 (FP.fsub m r) := n32_of (FP.Core.fsub_out' hm hr.notNaN)
end
section
-- MONEY AS A FLOAT: a multiple of 1/2, at most 2^43, zero only as +0
theorem log2_pow_le {U : Nat} (h : 0 < U) : 2 ^ U.log2 ≤ U ∧ U < 2 ^ (U.log2 + 1) := ⟨Nat.log2_self_le (by omega), Nat.lt_log2_self⟩
theorem leading_one {U : Nat} (h : 0 < U) : FP.Core.leading U 1 = (U.log2 : Int) := by
  unfold FP.Core.leading
  have h1 : Nat.log2 1 = 0 := by decide
  have h2 := (log2_pow_le h).1
  rw [h1]
  have e1 : ((U.log2 : Int) - ((0 : Nat) : Int)).toNat = U.log2 := by omega
  have e2 : (-((U.log2 : Int) - ((0 : Nat) : Int))).toNat = 0 := by omega
  show (if 1 * 2 ^ ((U.log2 : Int) - ((0 : Nat) : Int)).toNat ≤ U * 2 ^ (-((U.log2 : Int) - ((0 : Nat) : Int))).toNat then (U.log2 : Int) - ((0 : Nat) : Int) else (U.log2 : Int) - ((0 : Nat) : Int) - 1) = (U.log2 : Int)
  rw [e1, e2, if_pos (by omega)]
  omega
theorem round_units {σ : Bool} {U l d : Nat} (hU : 0 < U) (hl : U.log2 = l) (hd : l = d + 23) (h2 : d ≤ 200) :
    FP.Core.round FP.Core.b32 (.fin σ U (-149)) = FP.Core.settle FP.Core.b32 σ (FP.Core.nearest U (2 ^ d)) ((d : Int) - 149) := by
  show FP.Core.roundRatio FP.Core.b32 σ U 1 (-149) = _
  unfold FP.Core.roundRatio
  rw [if_neg (by omega)]
  have hq : FP.Core.quantum FP.Core.b32 U 1 (-149) = (d : Int) - 149 := by
    unfold FP.Core.quantum
    rw [leading_one hU, hl, FP.Core.qmin_b32]
    have hp : (FP.Core.b32.p : Int) = 24 := rfl
    rw [hp]
    omega
  rw [hq]
  unfold FP.Core.roundAt FP.Core.unitsNum FP.Core.unitsDen
  have e1 : ((-149 : Int) - ((d : Int) - 149)).toNat = 0 := by omega
  have e2 : (((d : Int) - 149) - (-149)).toNat = d := by omega
  rw [e1, e2]
  simp
theorem round_good {σ : Bool} {U : Nat} (hU : 0 < U) (h1 : 2 ^ 148 ∣ U) (h2 : U ≤ 2 ^ 192 + 2 ^ 167) :
    ∃ (c d : Nat), FP.Core.round FP.Core.b32 (.fin σ U (-149)) = .fin σ c ((d : Int) - 149) ∧ 2 ^ 23 ≤ c ∧ c < 2 ^ 24 ∧ 125 ≤ d ∧ d ≤ 169 ∧ 2 ^ 148 ∣ c * 2 ^ d ∧ c * 2 ^ d ≤ 2 ^ 192 := by
  obtain ⟨b1, b2⟩ := log2_pow_le hU
  obtain ⟨l, hl⟩ : ∃ l, U.log2 = l := ⟨_, rfl⟩
  rw [hl] at b1 b2
  have hUge : 2 ^ 148 ≤ U := Nat.le_of_dvd hU h1
  have l1 : 148 ≤ l := by
    rcases Nat.lt_or_ge l 148 with q | q
    · have : 2 ^ (l + 1) ≤ 2 ^ 148 := Nat.pow_le_pow_right (by decide) (by omega)
      omega
    · exact q
  have l2 : l ≤ 192 := by
    rcases Nat.lt_or_ge 192 l with q | q
    · have h3 : 2 ^ 193 ≤ 2 ^ l := Nat.pow_le_pow_right (by decide) (by omega)
      have h4 : (2 : Nat) ^ 193 = 2 * 2 ^ 192 := by decide
      have h5 : (2 : Nat) ^ 167 < 2 ^ 192 := by decide
      omega
    · exact q
  obtain ⟨d, hd⟩ : ∃ d, l = d + 23 := ⟨l - 23, by omega⟩
  subst hd
  have hB : 0 < 2 ^ d := Nat.two_pow_pos d
  have e23 : 2 ^ (d + 23) = 2 ^ 23 * 2 ^ d := by rw [Nat.pow_add, Nat.mul_comm]
  have e24 : 2 ^ (d + 23 + 1) = 2 ^ 24 * 2 ^ d := by rw [Nat.add_assoc, Nat.pow_add, Nat.mul_comm]
  rw [e23] at b1
  rw [e24] at b2
  have n1 : 2 ^ 23 ≤ FP.Core.nearest U (2 ^ d) := FP.Core.nearest_ge hB b1
  have n2 : FP.Core.nearest U (2 ^ d) ≤ 2 ^ 24 := FP.Core.nearest_le hB (by omega)
  have hdv : 2 ^ 148 ∣ FP.Core.nearest U (2 ^ d) * 2 ^ d := by
    rcases Nat.lt_or_ge d 148 with q | q
    · obtain ⟨k, hk⟩ := Nat.dvd_trans (Nat.pow_dvd_pow 2 (Nat.le_of_lt q)) h1
      have : FP.Core.nearest U (2 ^ d) = k := by
        rw [hk, Nat.mul_comm (2 ^ d) k]
        exact FP.Core.nearest_exact k hB
      rw [this, Nat.mul_comm, ← hk]
      exact h1
    · exact Nat.dvd_trans (Nat.pow_dvd_pow 2 q) (Nat.dvd_mul_left _ _)
  have hle : FP.Core.nearest U (2 ^ d) * 2 ^ d ≤ 2 ^ 192 := by
    rcases Nat.lt_or_ge d 169 with q | q
    · calc FP.Core.nearest U (2 ^ d) * 2 ^ d ≤ 2 ^ 24 * 2 ^ d := Nat.mul_le_mul_right _ n2
        _ = 2 ^ (24 + d) := (Nat.pow_add 2 24 d).symm
        _ ≤ 2 ^ 192 := Nat.pow_le_pow_right (by decide) (by omega)
    · have hd9 : d = 169 := by omega
      subst hd9
      have e : FP.Core.nearest U (2 ^ 169) = 2 ^ 23 := by
        have p1 : (2 : Nat) ^ 192 = 2 ^ 23 * 2 ^ 169 := by decide
        have p2 : (2 : Nat) ^ 169 = 4 * 2 ^ 167 := by decide
        have p3 : (0 : Nat) < 2 ^ 167 := by decide
        have hdiv : U / 2 ^ 169 = 2 ^ 23 := by
          rw [Nat.div_eq_iff (by omega)]
          omega
        have hmod : U % 2 ^ 169 = U - 2 ^ 23 * 2 ^ 169 := by
          have h := Nat.div_add_mod U (2 ^ 169)
          rw [hdiv] at h
          omega
        unfold FP.Core.nearest
        rw [hmod, hdiv, if_pos (by omega)]
      rw [e]
      decide
  rw [round_units hU hl rfl (by omega)]
  unfold FP.Core.settle FP.Core.bound
  have hp : FP.Core.b32.p = 24 := rfl
  have hqm : FP.Core.b32.qmax = 104 := by decide
  have htl : FP.Core.b32.tails = 2 ^ 23 := FP.Core.tails_b32
  rw [hp, hqm, htl]
  by_cases hc : FP.Core.nearest U (2 ^ d) < 2 ^ 24
  · rw [if_pos hc, if_pos (by omega)]
    exact ⟨_, d, rfl, n1, hc, by omega, by omega, hdv, hle⟩
  · have hc2 : FP.Core.nearest U (2 ^ d) = 2 ^ 24 := by omega
    rw [if_neg hc, if_pos (by omega)]
    have hd1 : d + 1 ≤ 169 := by
      rcases Nat.lt_or_ge d 169 with q | q
      · omega
      · have hd9 : d = 169 := by omega
        subst hd9
        rw [hc2] at hle
        exact absurd hle (by decide)
    refine ⟨2 ^ 23, d + 1, ?_, Nat.le_refl _, by decide, by omega, hd1, ?_, ?_⟩
    · rw [show ((d + 1 : Nat) : Int) - 149 = (d : Int) - 149 + 1 by omega]
    · have e : 2 ^ 23 * 2 ^ (d + 1) = 2 ^ 24 * 2 ^ d := by rw [Nat.pow_succ]; omega
      rw [e, ← hc2]
      exact hdv
    · have e : 2 ^ 23 * 2 ^ (d + 1) = 2 ^ 24 * 2 ^ d := by rw [Nat.pow_succ]; omega
      rw [e, ← hc2]
      exact hle
/-- a datum of whole halves, at most M times 2^-149 -/
def hG (d : FP.Core.Datum) (M : Nat) : Prop := ∃ (s : Bool) (c : Nat) (q : Int), d = .fin s c q ∧ -149 ≤ q ∧ 2 ^ 148 ∣ c * 2 ^ (q + 149).toNat ∧ c * 2 ^ (q + 149).toNat ≤ M
theorem hG.neg {d : FP.Core.Datum} {M : Nat} (h : hG d M) : hG (FP.Core.negate d) M := by
  obtain ⟨s, c, q, rfl, h1, h2, h3⟩ := h
  exact ⟨!s, c, q, rfl, h1, h2, h3⟩
/-- what the money is -/
def gD (d : FP.Core.Datum) : Prop := ∃ (s : Bool) (c : Nat) (q : Int), d = .fin s c q ∧ -149 ≤ q ∧ (c = 0 → s = false) ∧ (c = 0 ∨ (2 ^ 23 ≤ c ∧ c < 2 ^ 24 ∧ -24 ≤ q ∧ q ≤ 20)) ∧ 2 ^ 148 ∣ c * 2 ^ (q + 149).toNat ∧ c * 2 ^ (q + 149).toNat ≤ 2 ^ 192
theorem gD_sum {x y : FP.Core.Datum} (hx : gD x) (hy : hG y (2 ^ 167)) : gD (FP.Core.round FP.Core.b32 (FP.Core.exactSum x y)) := by
  obtain ⟨s, c, q, rfl, hq, hs, -, hc1, hc2⟩ := hx
  obtain ⟨t, d, r, rfl, hr, hd1, hd2⟩ := hy
  obtain ⟨e, he⟩ : ∃ e, e = min q r := ⟨_, rfl⟩
  obtain ⟨V, hV⟩ : ∃ V, V = FP.Core.sumUnits s c q t d r e := ⟨_, rfl⟩
  have hex : FP.Core.exactSum (.fin s c q) (.fin t d r) = .fin (FP.Core.sumSign s t V) V.natAbs e := by rw [hV, he]; rfl
  rw [hex]
  have e0 : -149 ≤ e := by omega
  rw [← FP.Core.round_inUnits (e := -149) (FP.Core.sumSign s t V) V.natAbs e0]
  obtain ⟨C, hC⟩ : ∃ C, C = c * 2 ^ (q + 149).toNat := ⟨_, rfl⟩
  obtain ⟨D, hD⟩ : ∃ D, D = d * 2 ^ (r + 149).toNat := ⟨_, rfl⟩
  obtain ⟨K, hK⟩ : ∃ K, K = 2 ^ (e + 149).toNat := ⟨_, rfl⟩
  have hKp : 0 < K := by rw [hK]; exact Nat.two_pow_pos _
  have eC : FP.Core.inUnits c q e * K = C := by
    rw [hC, hK]
    unfold FP.Core.inUnits
    rw [Nat.mul_assoc, ← Nat.pow_add, show (q - e).toNat + (e + 149).toNat = (q + 149).toNat by omega]
  have eD : FP.Core.inUnits d r e * K = D := by
    rw [hD, hK]
    unfold FP.Core.inUnits
    rw [Nat.mul_assoc, ← Nat.pow_add, show (r - e).toNat + (e + 149).toNat = (r + 149).toNat by omega]
  have eV : V * (K : Int) = FP.Core.signed s C + FP.Core.signed t D := by
    rw [hV]
    unfold FP.Core.sumUnits
    rw [Int.add_mul, ← FP.Core.signed_mul, ← FP.Core.signed_mul, eC, eD]
  obtain ⟨U, hU⟩ : ∃ U, U = FP.Core.inUnits V.natAbs e (-149) := ⟨_, rfl⟩
  have eU : (U : Int) = (FP.Core.signed s C + FP.Core.signed t D).natAbs := by
    rw [← eV, Int.natAbs_mul, hU]
    unfold FP.Core.inUnits
    rw [show (e - -149).toNat = (e + 149).toNat by omega, ← hK]
    simp
  rw [← hU]
  rw [← hC] at hc1 hc2
  rw [← hD] at hd1 hd2
  by_cases hU0 : U = 0
  · have hV0 : V = 0 := by
      have h1 : V * (K : Int) = 0 := by rw [eV]; omega
      rcases Int.mul_eq_zero.mp h1 with h | h
      · exact h
      · omega
    have hsg : FP.Core.sumSign s t V = false := by
      unfold FP.Core.sumSign
      rw [if_pos hV0]
      by_cases hc0 : c = 0
      · rw [hs hc0]
        rfl
      · have hCp : 0 < C := by rw [hC]; exact Nat.mul_pos (by omega) (Nat.two_pow_pos _)
        rw [hV0] at eV
        cases s <;> cases t <;> first | rfl | (simp only [FP.Core.signed, if_true, Bool.false_eq_true, if_false] at eV; omega)
    rw [hU0, hsg]
    refine ⟨false, 0, -149, ?_, by omega, fun _ => rfl, Or.inl rfl, by simp, by simp⟩
    show FP.Core.roundRatio FP.Core.b32 false 0 1 (-149) = _
    unfold FP.Core.roundRatio
    rw [if_pos rfl, FP.Core.qmin_b32]
  · have hdvd : 2 ^ 148 ∣ U := by
      have hU2 : U = C + D ∨ U = C - D ∨ U = D - C := by
        clear hc1 hc2 hd1 hd2
        cases s <;> cases t <;> simp only [FP.Core.signed, if_true, Bool.false_eq_true, if_false] at eU <;> omega
      rcases hU2 with h | h | h
      · rw [h]; exact Nat.dvd_add hc1 hd1
      · rw [h]; exact Nat.dvd_sub hc1 hd1
      · rw [h]; exact Nat.dvd_sub hd1 hc1
    have hle : U ≤ 2 ^ 192 + 2 ^ 167 := by
      cases s <;> cases t <;> simp only [FP.Core.signed, if_true, Bool.false_eq_true, if_false] at eU <;> omega
    obtain ⟨c', d', h1, h2, h3, h4, h5, h6, h7⟩ := round_good (σ := FP.Core.sumSign s t V) (by omega) hdvd hle
    have e9 : ((d' : Int) - 149 + 149).toNat = d' := by omega
    exact ⟨_, c', (d' : Int) - 149, h1, by omega, fun h => absurd h (by omega), Or.inr ⟨h2, h3, by omega, by omega⟩, by rw [e9]; exact h6, by rw [e9]; exact h7⟩
def gF (b : UInt32) : Prop := gD (FP.Core.val32 b)
theorem gF.fin {b : UInt32} (h : gF b) : FP.Core.FFin b := by
  obtain ⟨s, c, q, h1, -⟩ := h
  exact ⟨s, c, q, h1⟩
theorem gF_zero : gF 0 := ⟨false, 0, -149, by rw [FP.Core.val32_zero, FP.Core.qmin_b32], by omega, fun _ => rfl, Or.inl rfl, by simp, by simp⟩
theorem gF_add {m r : UInt32} (hm : gF m) (hr : hG (FP.Core.val32 r) (2 ^ 167)) : gF (FP.fadd m r) := by
  unfold gF
  rw [show FP.fadd m r = FP.Core.fadd m r from rfl, FP.Core.val32_fadd]
  exact gD_sum hm hr
theorem gF_sub {m r : UInt32} (hm : gF m) (hr : hG (FP.Core.val32 r) (2 ^ 167)) : gF (FP.fsub m r) := by
  unfold gF
  rw [show FP.fsub m r = FP.Core.fsub m r from rfl, FP.Core.val32_fsub]
  exact gD_sum hm hr.neg
end
section
-- THE BITS OF A GOOD FLOAT
theorem nx_or (a b : Nat) : nI a ||| nI b = nI (a ||| b) := by
  apply Int32.toBitVec_inj.1
  show BitVec.ofNat 32 a ||| BitVec.ofNat 32 b = BitVec.ofNat 32 (a ||| b)
  apply BitVec.eq_of_getLsbD_eq
  intro i hi
  simp [hi]
theorem nx_add {a b k : Nat} (h : b < 2 ^ k) : nI (a * 2 ^ k) ||| nI b = nI (a * 2 ^ k + b) := by
  rw [nx_or, ← Nat.shiftLeft_eq, Nat.shiftLeft_add_eq_or_of_lt h]
theorem sh23 : ∀ n, n < 256 → nI n <<< ((23 : Int32) &&& 31) = nI (n * 2 ^ 23) := by decide +kernel
/-- c * 2^q as a float -/
def szf (c : Nat) (q : Int) : UInt32 := FP.Core.of32 (.fin false c q)
theorem fitc {c : Nat} {q : Int} (s : Bool) (h1 : 2 ^ 23 ≤ c) (h2 : c < 2 ^ 24) (h3 : -149 ≤ q) (h4 : q ≤ 104) : FP.Core.fits FP.Core.b32 (.fin s c q) := by
  have hqm : FP.Core.b32.qmax = 104 := by decide
  refine ⟨h2, by rw [FP.Core.qmin_b32]; exact h3, by rw [hqm]; exact h4, Or.inr (by rw [FP.Core.tails_b32]; exact h1)⟩
theorem val_szf {c : Nat} {q : Int} (h1 : 2 ^ 23 ≤ c) (h2 : c < 2 ^ 24) (h3 : -149 ≤ q) (h4 : q ≤ 104) : FP.Core.val32 (szf c q) = .fin false c q := FP.Core.val32_of32 (fitc false h1 h2 h3 h4)
theorem szf_of {b : UInt32} {c : Nat} {q : Int} (h : FP.Core.val32 b = .fin false c q) : b = szf c q := by
  unfold szf
  rw [← h, FP.Core.of32_val32 (by rw [h]; exact FP.Core.Datum.noConfusion)]
theorem zv_fin (s : Bool) (c : Nat) (q : Int) : FP.Core.zval FP.Core.b32 (.fin s c q) = FP.Core.signed s (c * 2 ^ (q + 149).toNat) := by
  show FP.Core.signed s (c * 2 ^ (q - FP.Core.b32.qmin).toNat) = _
  rw [FP.Core.qmin_b32, show q - -149 = q + 149 by omega]
theorem fc_lt {x y : UInt32} {s t : Bool} {c d : Nat} {q r : Int} (hx : FP.Core.val32 x = .fin s c q) (hy : FP.Core.val32 y = .fin t d r) (h : FP.Core.signed s (c * 2 ^ (q + 149).toNat) < FP.Core.signed t (d * 2 ^ (r + 149).toNat)) : FP.fcmp x y = some .lt := by
  show FP.Core.fcmp x y = some .lt
  rw [FP.Core.fcmp_zval (by rw [hx]; exact FP.Core.Datum.noConfusion) (by rw [hy]; exact FP.Core.Datum.noConfusion), hx, hy, zv_fin, zv_fin, (FP.Core.compare_lt_iff _ _).mpr h]
theorem fc_gt {x y : UInt32} {s t : Bool} {c d : Nat} {q r : Int} (hx : FP.Core.val32 x = .fin s c q) (hy : FP.Core.val32 y = .fin t d r) (h : FP.Core.signed t (d * 2 ^ (r + 149).toNat) < FP.Core.signed s (c * 2 ^ (q + 149).toNat)) : FP.fcmp x y = some .gt := by
  show FP.Core.fcmp x y = some .gt
  rw [FP.Core.fcmp_zval (by rw [hx]; exact FP.Core.Datum.noConfusion) (by rw [hy]; exact FP.Core.Datum.noConfusion), hx, hy, zv_fin, zv_fin, (FP.Core.compare_gt_iff _ _).mpr h]
theorem fc_nlt {x y : UInt32} {s t : Bool} {c d : Nat} {q r : Int} (op : CmpOp) (hx : FP.Core.val32 x = .fin s c q) (hy : FP.Core.val32 y = .fin t d r) (h : FP.Core.signed t (d * 2 ^ (r + 149).toNat) ≤ FP.Core.signed s (c * 2 ^ (q + 149).toNat)) : ¬ Op.cmpValue (FP.fcmp x y) op < 0 := by
  rcases Int.lt_or_eq_of_le h with h | h
  · rw [fc_gt hx hy h]
    show ¬ (1 : Int32) < 0
    decide
  · have e : FP.fcmp x y = some .eq := by
      show FP.Core.fcmp x y = some .eq
      rw [FP.Core.fcmp_zval (by rw [hx]; exact FP.Core.Datum.noConfusion) (by rw [hy]; exact FP.Core.Datum.noConfusion), hx, hy, zv_fin, zv_fin, (FP.Core.compare_eq_iff _ _).mpr h.symm]
    rw [e]
    show ¬ (0 : Int32) < 0
    decide
theorem v_c0 : FP.Core.val32 FP.fconst0 = .fin false 0 (-149) := by decide +kernel
theorem v_c1 : FP.Core.val32 FP.fconst1 = .fin false (2 ^ 23) (-23) := by decide +kernel
theorem v_c2 : FP.Core.val32 FP.fconst2 = .fin false (2 ^ 23) (-22) := by decide +kernel
theorem v_half : FP.Core.val32 1056964608 = .fin false (2 ^ 23) (-24) := by decide +kernel
theorem v_big : FP.Core.val32 1258291200 = .fin false (2 ^ 23) 0 := by decide +kernel
/-- against 2 and against 1: by the exponent -/
theorem sz_lt {c : Nat} {q : Int} {y : UInt32} {r : Int} (h1 : 2 ^ 23 ≤ c) (h2 : c < 2 ^ 24) (h3 : -149 ≤ q) (h4 : q ≤ 104) (hy : FP.Core.val32 y = .fin false (2 ^ 23) r) (hr : q < r) : FP.fcmp (szf c q) y = some .lt := by
  refine fc_lt (val_szf h1 h2 h3 h4) hy ?_
  show ((c * 2 ^ (q + 149).toNat : Nat) : Int) < ((2 ^ 23 * 2 ^ (r + 149).toNat : Nat) : Int)
  have hp : 2 ^ ((q + 149).toNat + 1) ≤ 2 ^ (r + 149).toNat := Nat.pow_le_pow_right (by decide) (by omega)
  have hq := Nat.two_pow_pos (q + 149).toNat
  have a1 : c * 2 ^ (q + 149).toNat < 2 ^ 24 * 2 ^ (q + 149).toNat := Nat.mul_lt_mul_of_pos_right h2 hq
  have a2 : 2 ^ 24 * 2 ^ (q + 149).toNat = 2 ^ 23 * 2 ^ ((q + 149).toNat + 1) := by rw [Nat.pow_succ]; omega
  have a3 : 2 ^ 23 * 2 ^ ((q + 149).toNat + 1) ≤ 2 ^ 23 * 2 ^ (r + 149).toNat := Nat.mul_le_mul_left _ hp
  exact Int.ofNat_lt.mpr (by omega)
theorem sz_nlt {c : Nat} {q : Int} {y : UInt32} {r : Int} (op : CmpOp) (h1 : 2 ^ 23 ≤ c) (h2 : c < 2 ^ 24) (h3 : -149 ≤ q) (h4 : q ≤ 104) (hy : FP.Core.val32 y = .fin false (2 ^ 23) r) (hr : r ≤ q) : ¬ Op.cmpValue (FP.fcmp (szf c q) y) op < 0 := by
  refine fc_nlt op (val_szf h1 h2 h3 h4) hy ?_
  show ((2 ^ 23 * 2 ^ (r + 149).toNat : Nat) : Int) ≤ ((c * 2 ^ (q + 149).toNat : Nat) : Int)
  have hp : 2 ^ (r + 149).toNat ≤ 2 ^ (q + 149).toNat := Nat.pow_le_pow_right (by decide) (by omega)
  exact Int.ofNat_le.mpr (Nat.mul_le_mul h1 hp)
/-- times a power of two -/
theorem mul_pow {x y : UInt32} {s : Bool} {c : Nat} {q r : Int} (hx : FP.Core.val32 x = .fin s c q) (h1 : 2 ^ 23 ≤ c) (h2 : c < 2 ^ 24) (hy : FP.Core.val32 y = .fin false (2 ^ 23) (r - 23)) (h3 : -149 ≤ q + r) (h4 : q + r ≤ 104) : FP.Core.val32 (FP.fmul x y) = .fin s c (q + r) := by
  show FP.Core.val32 (FP.Core.fmul x y) = _
  rw [FP.Core.val32_fmul, hx, hy]
  show FP.Core.roundRatio FP.Core.b32 (s != false) (c * 2 ^ 23) 1 (q + (r - 23)) = _
  rw [show (s != false) = s by cases s <;> rfl]
  refine FP.Core.roundRatio_exact FP.Core.good_b32 (by decide) (fitc s h1 h2 h3 h4) ?_
  rw [show (q + (r - 23) - (q + r)).toNat = 0 by omega, show (q + r - (q + (r - 23))).toNat = 23 by omega]
  omega
theorem sz_half {c : Nat} {q : Int} (h1 : 2 ^ 23 ≤ c) (h2 : c < 2 ^ 24) (h3 : -148 ≤ q) (h4 : q ≤ 104) : FP.fmul (szf c q) 1056964608 = szf c (q - 1) :=
  szf_of (mul_pow (r := -1) (val_szf h1 h2 (by omega) h4) h1 h2 v_half (by omega) (by omega))
theorem sz_two {c : Nat} {q : Int} (h1 : 2 ^ 23 ≤ c) (h2 : c < 2 ^ 24) (h3 : -149 ≤ q) (h4 : q ≤ 103) : FP.fmul (szf c q) FP.fconst2 = szf c (q + 1) :=
  szf_of (mul_pow (r := 1) (val_szf h1 h2 h3 (by omega)) h1 h2 v_c2 (by omega) (by omega))
/-- the fraction -/
theorem sz_frac {c : Nat} (h1 : 2 ^ 23 ≤ c) (h2 : c < 2 ^ 24) : FP.f2i (FP.fmul (FP.fsub (szf c (-23)) FP.fconst1) 1258291200) = nI (c - 2 ^ 23) ∧ vf_n32 (FP.fsub (szf c (-23)) FP.fconst1) ∧ vf_n32 (FP.fmul (FP.fsub (szf c (-23)) FP.fconst1) 1258291200) := by
  obtain ⟨n, hn⟩ : ∃ n, c = 2 ^ 23 + n := ⟨c - 2 ^ 23, by omega⟩
  subst hn
  have hs : FP.Core.val32 (FP.fsub (szf (2 ^ 23 + n) (-23)) FP.fconst1) = FP.Core.round FP.Core.b32 (.fin false n (-23)) := by
    show FP.Core.val32 (FP.Core.fsub _ _) = _
    rw [FP.Core.val32_fsub, val_szf h1 h2 (by omega) (by omega), v_c1]
    have hV : FP.Core.sumUnits false (2 ^ 23 + n) (-23) true (2 ^ 23) (-23) (-23) = (n : Int) := by
      unfold FP.Core.sumUnits FP.Core.inUnits
      simp only [FP.Core.signed, if_true, Bool.false_eq_true, if_false, Int.sub_self, Int.toNat_zero, Nat.pow_zero, Nat.mul_one]
      omega
    show FP.Core.round FP.Core.b32 (.fin (FP.Core.sumSign false true (FP.Core.sumUnits false (2 ^ 23 + n) (-23) true (2 ^ 23) (-23) (-23))) (FP.Core.sumUnits false (2 ^ 23 + n) (-23) true (2 ^ 23) (-23) (-23)).natAbs (-23)) = _
    rw [hV]
    have hsg : FP.Core.sumSign false true (n : Int) = false := by
      unfold FP.Core.sumSign
      by_cases h : (n : Int) = 0
      · rw [if_pos h]; rfl
      · rw [if_neg h]
        exact decide_eq_false (by omega)
    rw [hsg, Int.natAbs_natCast]
  have hfin : ∀ w : UInt32, FP.Core.FFin w → vf_n32 w := fun w h => n32_of h.notNaN
  have key : ∃ (cw : Nat) (qw : Int), FP.Core.val32 (FP.fsub (szf (2 ^ 23 + n) (-23)) FP.fconst1) = .fin false cw qw ∧ ∃ (cp : Nat) (qp : Int), FP.Core.val32 (FP.fmul (FP.fsub (szf (2 ^ 23 + n) (-23)) FP.fconst1) 1258291200) = .fin false cp qp ∧ cp * 2 ^ (qp + 149).toNat = n * 2 ^ 149 := by
    by_cases h0 : n = 0
    · have e : FP.Core.val32 (FP.fsub (szf (2 ^ 23 + n) (-23)) FP.fconst1) = .fin false 0 (-149) := by
        rw [hs, h0]
        show FP.Core.roundRatio FP.Core.b32 false 0 1 (-23) = _
        unfold FP.Core.roundRatio
        rw [if_pos rfl, FP.Core.qmin_b32]
      refine ⟨0, -149, e, 0, -149, ?_, by rw [h0]; simp⟩
      show FP.Core.val32 (FP.Core.fmul _ _) = _
      rw [FP.Core.val32_fmul, v_big]
      rw [show FP.Core.val32 (FP.fsub (szf (2 ^ 23 + n) (-23)) FP.fconst1) = .fin false 0 (-149) from e]
      show FP.Core.roundRatio FP.Core.b32 false (0 * 2 ^ 23) 1 (-149 + 0) = _
      unfold FP.Core.roundRatio
      rw [if_pos (by simp), FP.Core.qmin_b32]
    · obtain ⟨b1, b2⟩ := log2_pow_le (show 0 < n by omega)
      have hl : n.log2 < 23 := by
        rcases Nat.lt_or_ge n.log2 23 with h | h
        · exact h
        · have := Nat.pow_le_pow_right (show 0 < 2 by decide) h
          omega
      obtain ⟨j, hj⟩ : ∃ j, j + n.log2 = 23 := ⟨23 - n.log2, by omega⟩
      have m1 : 2 ^ 23 ≤ n * 2 ^ j := by
        calc 2 ^ 23 = 2 ^ n.log2 * 2 ^ j := by rw [← Nat.pow_add, show n.log2 + j = 23 by omega]
          _ ≤ n * 2 ^ j := Nat.mul_le_mul_right _ b1
      have m2 : n * 2 ^ j < 2 ^ 24 := by
        calc n * 2 ^ j < 2 ^ (n.log2 + 1) * 2 ^ j := Nat.mul_lt_mul_of_pos_right b2 (Nat.two_pow_pos j)
          _ = 2 ^ 24 := by rw [← Nat.pow_add, show n.log2 + 1 + j = 24 by omega]
      have hj1 : j ≤ 23 := by omega
      have e : FP.Core.val32 (FP.fsub (szf (2 ^ 23 + n) (-23)) FP.fconst1) = .fin false (n * 2 ^ j) (-23 - (j : Int)) := by
        rw [hs, ← FP.Core.round_inUnits (e := -23 - (j : Int)) false n (by omega)]
        have hu : FP.Core.inUnits n (-23) (-23 - (j : Int)) = n * 2 ^ j := by
          unfold FP.Core.inUnits
          rw [show (-23 - (-23 - (j : Int))).toNat = j by omega]
        rw [hu]
        exact FP.Core.round_of_fits FP.Core.good_b32 (fitc false m1 m2 (by omega) (by omega))
      have e2 := mul_pow (r := 23) (y := 1258291200) e m1 m2 v_big (by omega) (by omega)
      refine ⟨_, _, e, _, _, e2, ?_⟩
      rw [show (-23 - (j : Int) + 23 + 149).toNat = 149 - j by omega, Nat.mul_assoc, ← Nat.pow_add, show j + (149 - j) = 149 by omega]
  obtain ⟨cw, qw, k1, cp, qp, k2, k3⟩ := key
  refine ⟨?_, hfin _ ⟨_, _, _, k1⟩, hfin _ ⟨_, _, _, k2⟩⟩
  apply Int32.toInt_inj.mp
  show (FP.Core.f2i _).toInt = _
  rw [FP.Core.f2i_val (by rw [k2]; exact FP.Core.Datum.noConfusion), k2]
  have hz : FP.Core.zmag FP.Core.b32 (.fin false cp qp) / FP.Core.one32 = n := by
    show cp * 2 ^ (qp - FP.Core.b32.qmin).toNat / 2 ^ 149 = n
    rw [FP.Core.qmin_b32, show qp - -149 = qp + 149 by omega, k3]
    exact Nat.mul_div_cancel _ (Nat.two_pow_pos 149)
  rw [hz, nI_toInt (by omega)]
  show max (-2 ^ 31) (min (2 ^ 31 - 1) ((n : Nat) : Int)) = _
  omega
theorem toI_nat (b : UInt32) : b.toInt32 = nI b.toNat := by
  apply Int32.toBitVec_inj.1
  show b.toBitVec = BitVec.ofNat 32 b.toNat
  apply BitVec.eq_of_toNat_eq
  rw [BitVec.toNat_ofNat]
  exact (Nat.mod_eq_of_lt b.toNat_lt).symm
theorem bits_of {b : UInt32} {s : Bool} {c : Nat} {q : Int} (h : FP.Core.val32 b = .fin s c q) (h1 : 2 ^ 23 ≤ c) (h2 : c < 2 ^ 24) (h3 : -149 ≤ q) (h4 : q ≤ 104) : b.toInt32 = nI ((s.toNat * 256 + (q + 150).toNat) * 2 ^ 23 + (c - 2 ^ 23)) := by
  rw [toI_nat]
  have e : b = FP.Core.of32 (.fin s c q) := by rw [← h, FP.Core.of32_val32 (by rw [h]; exact FP.Core.Datum.noConfusion)]
  rw [e, FP.Core.toNat_of32 (fitc s h1 h2 h3 h4)]
  refine congrArg nI ?_
  unfold FP.Core.encode
  rw [FP.Core.tails_b32, FP.Core.qmin_b32]
  show (if c < 2 ^ 23 then FP.Core.assemble FP.Core.b32 s 0 c else FP.Core.assemble FP.Core.b32 s ((q - -149).toNat + 1) (c - 2 ^ 23)) = _
  rw [if_neg (by omega)]
  unfold FP.Core.assemble
  have hx : FP.Core.b32.exps = 256 := by decide
  rw [FP.Core.tails_b32, hx, show (q - -149).toNat + 1 = (q + 150).toNat by omega]
theorem top_or {X : Nat} (h : X < 2 ^ 31) : nI X ||| (-2147483648) = nI (2 ^ 31 + X) := by
  have e : (-2147483648 : Int32) = nI (1 * 2 ^ 31) := by decide
  rw [e, Int32.or_comm, nx_add h]
theorem bits_make {E fr : Nat} (hE : E < 256) (hf : fr < 2 ^ 23) : (nI E <<< ((23 : Int32) &&& 31)) ||| nI fr = nI (E * 2 ^ 23 + fr) := by
  rw [sh23 E hE, nx_add hf]
end
