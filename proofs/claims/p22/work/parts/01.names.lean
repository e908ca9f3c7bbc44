-- ===== PART A: goes FIRST, ahead of the names: the tables' words, and 'selects' of the private methods out of them =====
/-- a private method of a class that the tables say can be made, by its rows of tables_1 -/
def lw_okq (q : MethodName × Nat) : Prop := (q.1.cls ≠ "java/lang/invoke/MethodHandle" ∧ q.1.cls ≠ "java/lang/invoke/VarHandle") ∧ Cond.instantiable q.1.cls q.2 ∈ tables_1 ∧ Cond.privateMethod q.1 ∈ tables_1 ∧ Cond.instanceMethod q.1 ∈ tables_1
theorem lw_p0 : lw_okq (⟨"java/lang/Throwable", "fillInStackTrace", "(I)Ljava/lang/Throwable;"⟩, 6) := ⟨⟨by decide +kernel, by decide +kernel⟩, List.mem_of_getElem? (i := 110) (by decide +kernel), List.mem_of_getElem? (i := 108) (by decide +kernel), List.mem_of_getElem? (i := 109) (by decide +kernel)⟩
theorem lw_p1 : lw_okq (⟨"TidegateBourse", "goBy", "(I)V"⟩, 15) := ⟨⟨by decide +kernel, by decide +kernel⟩, List.mem_of_getElem? (i := 10) (by decide +kernel), List.mem_of_getElem? (i := 216) (by decide +kernel), List.mem_of_getElem? (i := 217) (by decide +kernel)⟩
theorem lw_p2 : lw_okq (⟨"TidegateBourse", "noteFor", "(I)I"⟩, 15) := ⟨⟨by decide +kernel, by decide +kernel⟩, List.mem_of_getElem? (i := 10) (by decide +kernel), List.mem_of_getElem? (i := 220) (by decide +kernel), List.mem_of_getElem? (i := 221) (by decide +kernel)⟩
theorem lw_p3 : lw_okq (⟨"TidegateBourse", "makeUnits", "(II)I"⟩, 15) := ⟨⟨by decide +kernel, by decide +kernel⟩, List.mem_of_getElem? (i := 10) (by decide +kernel), List.mem_of_getElem? (i := 234) (by decide +kernel), List.mem_of_getElem? (i := 235) (by decide +kernel)⟩
theorem lw_p4 : lw_okq (⟨"TidegateBourse", "settle", "(I)V"⟩, 15) := ⟨⟨by decide +kernel, by decide +kernel⟩, List.mem_of_getElem? (i := 10) (by decide +kernel), List.mem_of_getElem? (i := 250) (by decide +kernel), List.mem_of_getElem? (i := 251) (by decide +kernel)⟩
theorem lw_p5 : lw_okq (⟨"TidegateBourse", "unitsFromNotes", "(II)I"⟩, 15) := ⟨⟨by decide +kernel, by decide +kernel⟩, List.mem_of_getElem? (i := 10) (by decide +kernel), List.mem_of_getElem? (i := 267) (by decide +kernel), List.mem_of_getElem? (i := 268) (by decide +kernel)⟩
def lw_privs_1 : List (MethodName × Nat) := [(⟨"java/lang/Throwable", "fillInStackTrace", "(I)Ljava/lang/Throwable;"⟩, 6), (⟨"TidegateBourse", "goBy", "(I)V"⟩, 15), (⟨"TidegateBourse", "noteFor", "(I)I"⟩, 15), (⟨"TidegateBourse", "makeUnits", "(II)I"⟩, 15), (⟨"TidegateBourse", "settle", "(I)V"⟩, 15), (⟨"TidegateBourse", "unitsFromNotes", "(II)I"⟩, 15)]
theorem lw_r1 : ∀ q ∈ lw_privs_1, lw_okq q := List.forall_mem_cons.mpr ⟨lw_p0, List.forall_mem_cons.mpr ⟨lw_p1, List.forall_mem_cons.mpr ⟨lw_p2, List.forall_mem_cons.mpr ⟨lw_p3, List.forall_mem_cons.mpr ⟨lw_p4, List.forall_mem_cons.mpr ⟨lw_p5, fun _ h => absurd h List.not_mem_nil⟩⟩⟩⟩⟩⟩
def lw_privs : List (MethodName × Nat) := lw_privs_1
def lw_tbl : List Cond := k2_sels lw_privs ++ tables_1
theorem lw_privs_ok : ∀ q ∈ lw_privs, lw_okq q := lw_r1
/-- the streams that the claim lets the run draw from -/
abbrev lw_cs : List Choice := [Jvm.Choice.named "NaN.bits"]
theorem lw_bits : nanBits ∈ lw_cs := by first | decide | exact List.mem_cons_self | simp [lw_cs, nanBits]
-- ===== end of PART A; then your names; then what follows =====
/-! ===== BEGIN words of one list among another's, by their places ===== -/
theorem goodIn_r {big : List Cond} (ws : List Cond) (ps : List Nat) (hp : ws = ps.filterMap (fun i => big[i]?)) (h : ws.all goodWord = true) : GoodIn big ws := by
  intro w hw
  have h1 := List.all_eq_true.mp h w hw
  rw [hp] at hw
  obtain ⟨i, -, hi⟩ := List.mem_filterMap.mp hw
  have hm : w ∈ big := by first | exact List.mem_of_getElem? hi | exact List.getElem?_mem hi
  exact ⟨hm, good_of_word h1⟩
theorem goodIn_app {big a b : List Cond} (ha : GoodIn big a) (hb : GoodIn big b) : GoodIn big (a ++ b) := fun w h => (List.mem_append.mp h).elim (ha w) (hb w)
theorem goodIn_ca {big a b : List Cond} {c : Cond} (ha : GoodIn big (c :: a)) (hb : GoodIn big b) : GoodIn big (c :: (a ++ b)) := fun w h => (List.mem_cons.mp h).elim (fun e => ha w (List.mem_cons.mpr (Or.inl e))) (fun h => (List.mem_append.mp h).elim (fun h => ha w (List.mem_cons.mpr (Or.inr h))) (hb w))
theorem goodIn_sub {big ws : List Cond} (hm : ∀ w ∈ ws, w ∈ big) (h : ws.all goodWord = true) : GoodIn big ws := fun w hw => ⟨hm w hw, good_of_word (List.all_eq_true.mp h w hw)⟩
/-! ===== END ===== -/

/-! ===== BEGIN exceptions that leave a method, and their catching by the caller (launches without stack traces) ===== -/
section VXA
/-! The laws vx_back, vx_callV, vx_callS, vx_callSW, vx_throw0, vx_throwS follow proofs of the library, with one case more: JvmDerived/Free/Laws.lean (Back.of_free), Shelf42/LK1.lean (callV, callS), Shelf/KitTraced.lean (throwNew0V, throwNewS). -/
/-- where a method has thrown q: the class by its name, the cell, what was written, the world -/
def vx_T (XC : String → State → State → Prop) (st : State) (q : Addr) (t : State) (mc ms : Nat) (free : Addr → Prop) : Prop :=
  ∃ (E : String) (ce : Cell) (L : List Loc), XC E st t ∧ t.heap[q]? = some ce ∧ ce.vm = .none ∧ st.vm.findClass E = some ce.cls ∧ st.WarmedH t.vm ∧ st.sameButNew ({ t with vm := st.vm } : State) L mc ms ∧ ∀ z ∈ L, free z.base
def vx_Q (Qc : Array Value → State → Outcome → State → Prop) (XC : String → State → State → Prop) (mc ms : Nat) (free : Addr → Prop) : Array Value → State → Outcome → State → Prop := fun a st o t =>
  (Qc a st o t ∧ ∃ L, FrameEnd st o t L mc ms ∧ ∀ q ∈ L, free q.base) ∨ ∃ q, o = .threw q ∧ vx_T XC st q t mc ms free
/-- a callee that returns or throws -/
def vx_Met (l : Launch) (y : MethodName) (ws : List Cond) (rm : Room) (Pc : Array Value → State → Prop) (Qc : Array Value → State → Outcome → State → Prop) (XC : String → State → State → Prop) (mc ms : Nat) (free : Addr → Prop) : Prop :=
  MetFree l y (headSpec ws rm) Pc (fun _ _ _ _ _ => True) (vx_Q Qc XC mc ms free)
def vx_Post (XC : String → State → State → Prop) (mc ms : Nat) (free : Addr → Prop) : Pt → Array Value → Addr → Pt → Prop := fun A a q B =>
  ∃ (g : JFrame) (mk : MethodId) (t : State) (L : List Loc) (E : String) (ce : Cell), B.U.heap = t.heap ∧ B.U.vm = t.vm ∧ XC E (A.U.calling g mk a) t ∧ t.heap[q]? = some ce ∧ ce.vm = .none ∧ A.U.vm.findClass E = some ce.cls ∧ B.locs = A.locs ++ L ∧ (∀ z ∈ L, free z.base) ∧ B.cells = A.cells + mc ∧ B.slots = A.slots + ms
def vx_Back (l : Launch) (R : Room) (p : Program) (e : Env) (below : List Frame) (s : State) (sargs : Array Value) (y : MethodName) (len W9 : Nat)
    (Pre : Pt → Array Value → Prop) (Post : Pt → Array Value → Option Value → Pt → Prop) (PostX : Pt → Array Value → Addr → Pt → Prop) : Prop :=
  ∀ (m : MethodId) (meth : Method) (c : Code) (A : Pt) (g : JFrame) (ig : Instr) (mk : MethodId) (a : Array Value),
    Stand p l e R s m sargs below meth c A.U A.locs A.cells A.slots → g.method = m → g.locals.size = c.maxLocals → decode c.code g.pc = .ok (ig, len) →
    2 * g.monitorRoom + (g.stack.map fun v => v.category).sum ≤ W9 → A.U.methodNamed? y = some mk → Pre A a →
    (∃ (v : Option Value) (B : Pt), Stand p l e R s m sargs below meth c B.U B.locs B.cells B.slots ∧ Post A a v B ∧
      Steps p.tables e below (doInvoke e (A.U.setTop g) [] mk a).1 (B.U.setTop { g with pc := g.pc + len, stack := v.toList ++ g.stack })) ∨
    (∃ (q : Addr) (B : Pt), Stand p l e R s m sargs below meth c B.U B.locs B.cells B.slots ∧ PostX A a q B ∧
      Steps p.tables e below (doInvoke e (A.U.setTop g) [] mk a).1 ((B.U.setTop g).pushFrame (.throwing q)))
section Payer
variable {l : Launch} {R : Room} {p : Program} {e : Env} {below : List Frame} {s : State} {sargs : Array Value} {y : MethodName} {len W9 : Nat}
theorem vx_back {ws : List Cond} {rm : Room} {Pc : Array Value → State → Prop} {Qc : Array Value → State → Outcome → State → Prop} {XC : String → State → State → Prop} {mc ms : Nat} {free : Addr → Prop} {bytes : ByteArray} {maxL : Nat} {ret : Option FieldType}
    (hM : vx_Met l y ws rm Pc Qc XC mc ms free) (hblind : FrameBlind Pc) (hrc : rm.cells = mc) (hrs : rm.slots = ms)
    (hframes : rm.frames + 1 ≤ R.frames) (hlocals : W9 + (maxL + 11) + rm.locals ≤ R.locals)
    (hws : ∀ w ∈ ws, ∀ a' U, s.WarmedH U.vm → w.before a' U = true) (hcode : Cond.code y bytes maxL ret ∈ ws) (hinit : ∀ a' U, s.WarmedH U.vm → (Cond.initialized y.cls).before a' U = true) :
    vx_Back l R p e below s sargs y len W9 (PreOf R mc ms Pc) (PostOf Qc mc ms free) (vx_Post XC mc ms free) := by
  intro m meth c A g ig mk a X hg hsize hdg hW hn hp
  have h1 : (headSpec ws rm).pre.before a A.U = true := atoms_intro fun w hw => hws w hw _ _ X.warmed
  have h2 : (Cond.code y bytes maxL ret).before a A.U = true := hws _ hcode _ _ X.warmed
  have h3 : (Cond.initialized y.cls).before a A.U = true := hinit _ _ X.warmed
  have h4 : A.cells + (headSpec ws rm).room.cells ≤ R.cells := by rw [show (headSpec ws rm).room.cells = mc from hrc]; exact hp.1
  have h5 : A.slots + (headSpec ws rm).room.slots ≤ R.slots := by rw [show (headSpec ws rm).room.slots = ms from hrs]; exact hp.2.1
  have hPc : Pc a (A.U.calling g mk a) := hblind _ _ _ _ hp.2.2
  obtain ⟨U, Ls, c0, s0⟩ := A
  dsimp only [Pt.U, Pt.locs, Pt.cells, Pt.slots] at h1 h2 h3 h4 h5 X hn hPc ⊢
  obtain ⟨methY, cY, hmY, hcY, -, hlY, -, -, -, -⟩ := Cond.code_spec hn h2
  obtain ⟨kY, hkY, -⟩ := className_of_methodNamed hn
  have hinitY : kY.init = .initialized := Cond.initialized_spec (findClass_of_methodNamed hn) hkY h3
  have h : At U g.method c below := by rw [hg]; exact X.here
  have hlocals9 : W9 + (maxL + 11) + (headSpec ws rm).room.locals ≤ R.locals := hlocals
  have happ : (headSpec ws rm).appliesLoose y e.platform (U.calling g mk a) = true :=
    Spec.appliesLoose_calling (g := g) h hdg hn hkY hinitY
      (X.room_calling (g := g) (R' := (headSpec ws rm).room) hsize hmY hcY hframes (by rw [hlY]; omega) h4 h5) h1
  obtain ⟨mid, hmid⟩ := h.above
  have hfr : (U.setTop g).frames = (.java g :: mid) ++ below := by rw [State.frames_setTop' g h.top, hmid]; rfl
  obtain ⟨o, s₂, hsteps, -, hend, hq⟩ := Steps.callFree hM p X.admits X.cas X.clock (acts := []) hfr happ hPc trivial
  have hq' : vx_Q Qc XC mc ms free a (U.calling g mk a) o s₂ := hq
  rw [State.frames_setTop' g h.top] at hend
  obtain ⟨g₀, hg0⟩ := Option.isSome_iff_exists.mp h.top
  obtain ⟨r, hr⟩ := State.topJava?_eq_some.mp hg0
  have hr' : (({ U with heap := s₂.heap, slotsUsed := s₂.slotsUsed } : State).setVm s₂.vm).frames = .java g₀ :: r := hr
  rcases hq' with ⟨hqc, L, hfe, hL⟩ | ⟨q, rfl, E, ce, L, hx, hce, hcv, hcl, hW₂, hsm, hL⟩
  · obtain ⟨⟨v, rfl⟩, hW₂, e2, q2, q3, q4, q5, q6⟩ := id hfe
    have e3 : s₂ = ({ (U.calling g mk a).setFrames s₂.frames with heap := s₂.heap, slotsUsed := s₂.slotsUsed } : State).setVm s₂.vm := by
      have : s₂ = ({ s₂ with vm := (U.calling g mk a).vm } : State).setVm s₂.vm := rfl
      rw [e2] at this
      exact this
    obtain ⟨c₂, i₂, len₂, hc₂, hd₂, hf₂⟩ := hend
    have hW' : U.WarmedH s₂.vm := hW₂
    have hcc : c₂ = c := by
      have h1 : s₂.code? g.method = U.code? g.method := by
        rw [State.code?_eq, State.code?_eq, hW'.alike.method?]
      exact Option.some.inj (hc₂.symm.trans (h1.trans h.code))
    subst hcc
    have hlen : len₂ = len := by rw [hdg] at hd₂; cases hd₂; rfl
    subst hlen
    have hs₂ : s₂ = (({ U with heap := s₂.heap, slotsUsed := s₂.slotsUsed } : State).setVm s₂.vm).setTop { g with pc := g.pc + len₂, stack := v.toList ++ g.stack } := by
      refine e3.trans ?_
      rw [hf₂, State.calling_eq h.top, State.setFrames_setFrames, State.setTop_of_frames _ hr', hr]
      rfl
    have hsame : U.sameButNew ({ U with heap := s₂.heap, slotsUsed := s₂.slotsUsed } : State) L mc ms := by
      refine ⟨?_, q2, q3, q4, q5, q6⟩
      obtain ⟨t, ht, -⟩ := State.frames_cons hr
      show ({ U with heap := s₂.heap, slotsUsed := s₂.slotsUsed } : State) = { U.setFrames U.frames with heap := s₂.heap, slotsUsed := s₂.slotsUsed }
      rw [State.setFrames_self ht]
    subst hg
    refine Or.inl ⟨v, ⟨(({ U with heap := s₂.heap, slotsUsed := s₂.slotsUsed } : State).setVm s₂.vm), Ls ++ L, c0 + mc, s0 + ms⟩,
      ⟨X.admits, X.cas, X.clock, X.frames, X.room, X.hears, X.method, X.code, (X.here.setHeapUsed s₂.heap s₂.slotsUsed).setVm hW'.alike, X.tail, State.WarmedH.trans X.warmed hW', X.limits, X.bytes, X.same.trans (hsame.setVm s.vm)⟩,
      ⟨g, mk, s₂, L, rfl, rfl, hqc, rfl, hL, rfl, rfl⟩, ?_⟩
    show Steps p.tables e below _ ((({ U with heap := s₂.heap, slotsUsed := s₂.slotsUsed } : State).setVm s₂.vm).setTop { g with pc := g.pc + len₂, stack := v.toList ++ g.stack })
    rw [← hs₂]
    exact hsteps
  · obtain ⟨e2, q2, q3, q4, q5, q6⟩ := id hsm
    have e3 : s₂ = ({ (U.calling g mk a).setFrames s₂.frames with heap := s₂.heap, slotsUsed := s₂.slotsUsed } : State).setVm s₂.vm := by
      have : s₂ = ({ s₂ with vm := (U.calling g mk a).vm } : State).setVm s₂.vm := rfl
      rw [e2] at this
      exact this
    have hf₂ : s₂.frames = .throwing q :: .java g :: U.frames.tail := hend
    have hW' : U.WarmedH s₂.vm := hW₂
    have hs₂ : s₂ = ((({ U with heap := s₂.heap, slotsUsed := s₂.slotsUsed } : State).setVm s₂.vm).setTop g).pushFrame (.throwing q) := by
      refine e3.trans ?_
      rw [hf₂, State.calling_eq h.top, State.setFrames_setFrames, State.pushFrame, State.frames_setTop _ hr', State.setTop_of_frames _ hr', State.setFrames_setFrames, hr]
      rfl
    have hsame : U.sameButNew ({ U with heap := s₂.heap, slotsUsed := s₂.slotsUsed } : State) L mc ms := by
      refine ⟨?_, q2, q3, q4, q5, q6⟩
      obtain ⟨t, ht, -⟩ := State.frames_cons hr
      show ({ U with heap := s₂.heap, slotsUsed := s₂.slotsUsed } : State) = { U.setFrames U.frames with heap := s₂.heap, slotsUsed := s₂.slotsUsed }
      rw [State.setFrames_self ht]
    subst hg
    refine Or.inr ⟨q, ⟨(({ U with heap := s₂.heap, slotsUsed := s₂.slotsUsed } : State).setVm s₂.vm), Ls ++ L, c0 + mc, s0 + ms⟩,
      ⟨X.admits, X.cas, X.clock, X.frames, X.room, X.hears, X.method, X.code, (X.here.setHeapUsed s₂.heap s₂.slotsUsed).setVm hW'.alike, X.tail, State.WarmedH.trans X.warmed hW', X.limits, X.bytes, X.same.trans (hsame.setVm s.vm)⟩,
      ⟨g, mk, s₂, L, E, ce, rfl, rfl, hx, hce, hcv, hcl, rfl, hL, rfl, rfl⟩, ?_⟩
    show Steps p.tables e below _ (((({ U with heap := s₂.heap, slotsUsed := s₂.slotsUsed } : State).setVm s₂.vm).setTop g).pushFrame (.throwing q))
    rw [← hs₂]
    exact hsteps
end Payer
section Calls
variable {p : Program} {l : Launch} {e : Env} {R : Room} {s : State} {m : MethodId} {args : Array Value} {below : List Frame} {meth : Method} {c : Code} {T : State} {locs : List Loc} {cells slots : Nat}
theorem vx_callV (X : Stand p l e R s m args below meth c T locs cells slots) (hexec : p.tables.exec = Jvm.exec) {own C : String} {index : Nat} {y : MethodName} {bytes : ByteArray} {maxL : Nat} {ret : Option FieldType}
    (hown : s.vm.findClass own = some m.cls) (hlink : (Cond.methodLink own index y).before args s = true) (hinst : (Cond.instanceMethod y).before args s = true) (hsel : (Cond.selects C y y).before args s = true)
    (hcode : (Cond.code y bytes maxL ret).before args s = true) (hy : y.cls ≠ "java/lang/invoke/MethodHandle" ∧ y.cls ≠ "java/lang/invoke/VarHandle")
    {W9 : Nat} {Pre : Pt → Array Value → Prop} {Post : Pt → Array Value → Option Value → Pt → Prop} {PostX : Pt → Array Value → Addr → Pt → Prop} (hK : vx_Back l R p e below s args y 3 W9 Pre Post PostX)
    {b : Addr} {cellB : Cell} (hcell : T.heap[b]? = some cellB) (hobj : cellB.vm.isStatics = false) (hcls : s.vm.findClass C = some cellB.cls)
    {g : JFrame} (hg : g.method = m) (hsize : g.locals.size = c.maxLocals) {argsL rest : List Value} (hlen : ∀ sig, parseMethodDescriptor y.desc = some sig → argsL.length = sig.parameters.length)
    (hstack : g.stack = argsL.reverse ++ .ref b :: rest) (hW : 2 * g.monitorRoom + (rest.map fun v => v.category).sum ≤ W9) (hdg : decode c.code g.pc = .ok (.invokevirtual index, 3))
    (hpre : ∀ vm₁, s.WarmedH vm₁ → Pre ⟨T.setVm vm₁, locs, cells, slots⟩ (Value.ref b :: argsL).toArray) :
    (∃ (v : Option Value) (vm₁ : Vm) (B : Pt), s.WarmedH vm₁ ∧ Stand p l e R s m args below meth c B.U B.locs B.cells B.slots ∧ Post ⟨T.setVm vm₁, locs, cells, slots⟩ (Value.ref b :: argsL).toArray v B ∧
      ∀ target, Steps p.tables e below (B.U.setTop { g with pc := g.pc + 3, stack := v.toList ++ rest }) target → Steps p.tables e below (T.setTop g) target) ∨
    (∃ (q : Addr) (vm₁ : Vm) (B : Pt), s.WarmedH vm₁ ∧ Stand p l e R s m args below meth c B.U B.locs B.cells B.slots ∧ PostX ⟨T.setVm vm₁, locs, cells, slots⟩ (Value.ref b :: argsL).toArray q B ∧
      Steps p.tables e below (T.setTop g) ((B.U.setTop { g with stack := rest }).pushFrame (.throwing q))) := by
  obtain ⟨mk, methM, hnamed, hmethM, hstM, habM⟩ := Cond.instanceMethod_spec hinst
  obtain ⟨methM', cM, hmethM', -, -, -, -, -, -, hsigM⟩ := Cond.code_spec hnamed hcode
  cases hmethM.symm.trans hmethM'
  obtain ⟨c2, r2, m2, q1, q2, q3, q4, kP, hkP, hkPi⟩ := Cond.selects_spec hsel
  cases hcls.symm.trans q1
  cases (State.methodFound?_of_named hnamed hy).symm.trans q2
  cases hnamed.symm.trans q3
  have hselP : selectMethod e.platform s.vm cellB.cls mk = .method mk := by rw [Launch.admits_selectMethod X.admits]; exact q4
  obtain ⟨vm₁, X₁, hstep₁⟩ := X.invokevirtual hexec hown hlink hnamed hmethM hstM hkP hkPi hy (a := b) (cell := cellB) hcell
    (fun z h => by rw [h] at hobj; cases hobj) hselP hmethM habM hkP hkPi (g := g) hg (argsL := argsL) (rest := rest) (hlen _ hsigM) hstack hdg
  rcases hK m meth c ⟨T.setVm vm₁, locs, cells, slots⟩ { g with stack := rest } (.invokevirtual index) mk (Value.ref b :: argsL).toArray X₁ hg hsize hdg hW (X₁.named hnamed) (hpre vm₁ X₁.warmed) with ⟨v, B, X', hpost, hsteps⟩ | ⟨q, B, X', hpost, hsteps⟩
  · exact Or.inl ⟨v, vm₁, B, X₁.warmed, X', hpost, fun target h => hstep₁ _ fun acts => by rw [doInvoke_state]; exact hsteps.trans h⟩
  · exact Or.inr ⟨q, vm₁, B, X₁.warmed, X', hpost, hstep₁ _ fun acts => by rw [doInvoke_state]; exact hsteps⟩
theorem vx_callS (X : Stand p l e R s m args below meth c T locs cells slots) (hexec : p.tables.exec = Jvm.exec) {own : String} {index : Nat} {y : MethodName} {bytes : ByteArray} {maxL : Nat} {ret : Option FieldType}
    (hown : s.vm.findClass own = some m.cls) (hlink : (Cond.methodLink own index y).before args s = true) (hstat : (Cond.static y).before args s = true) (hinit : (Cond.initialized y.cls).before args s = true)
    (hcode : (Cond.code y bytes maxL ret).before args s = true) (hy : y.cls ≠ "java/lang/invoke/MethodHandle" ∧ y.cls ≠ "java/lang/invoke/VarHandle")
    {W9 : Nat} {Pre : Pt → Array Value → Prop} {Post : Pt → Array Value → Option Value → Pt → Prop} {PostX : Pt → Array Value → Addr → Pt → Prop} (hK : vx_Back l R p e below s args y 3 W9 Pre Post PostX)
    {g : JFrame} (hg : g.method = m) (hsize : g.locals.size = c.maxLocals) {argsL rest : List Value} (hlen : ∀ sig, parseMethodDescriptor y.desc = some sig → argsL.length = sig.parameters.length)
    (hstack : g.stack = argsL.reverse ++ rest) (hW : 2 * g.monitorRoom + (rest.map fun v => v.category).sum ≤ W9) (hdg : decode c.code g.pc = .ok (.invokestatic index, 3))
    (hpre : ∀ vm₁, s.WarmedH vm₁ → Pre ⟨T.setVm vm₁, locs, cells, slots⟩ argsL.toArray) :
    (∃ (v : Option Value) (vm₁ : Vm) (B : Pt), s.WarmedH vm₁ ∧ Stand p l e R s m args below meth c B.U B.locs B.cells B.slots ∧ Post ⟨T.setVm vm₁, locs, cells, slots⟩ argsL.toArray v B ∧
      ∀ target, Steps p.tables e below (B.U.setTop { g with pc := g.pc + 3, stack := v.toList ++ rest }) target → Steps p.tables e below (T.setTop g) target) ∨
    (∃ (q : Addr) (vm₁ : Vm) (B : Pt), s.WarmedH vm₁ ∧ Stand p l e R s m args below meth c B.U B.locs B.cells B.slots ∧ PostX ⟨T.setVm vm₁, locs, cells, slots⟩ argsL.toArray q B ∧
      Steps p.tables e below (T.setTop g) ((B.U.setTop { g with stack := rest }).pushFrame (.throwing q))) := by
  obtain ⟨mk, hnamed⟩ := Cond.code_named hcode
  obtain ⟨methM, cM, hmethM, -, -, -, -, -, -, hsigM⟩ := Cond.code_spec hnamed hcode
  have hstatic : methM.isStatic = true := Cond.static_spec hnamed hmethM hstat
  obtain ⟨kP, hkP, -⟩ := className_of_methodNamed hnamed
  have hinitP : kP.init = .initialized := Cond.initialized_spec (findClass_of_methodNamed hnamed) hkP hinit
  obtain ⟨vm₁, X₁, hstep₁⟩ := X.invokestatic hexec hown hlink hnamed hmethM hstatic hkP hinitP hy (g := g) hg (argsL := argsL) (rest := rest) (hlen _ hsigM) hstack hdg
  rcases hK m meth c ⟨T.setVm vm₁, locs, cells, slots⟩ { g with stack := rest } (.invokestatic index) mk argsL.toArray X₁ hg hsize hdg hW (X₁.named hnamed) (hpre vm₁ X₁.warmed) with ⟨v, B, X', hpost, hsteps⟩ | ⟨q, B, X', hpost, hsteps⟩
  · exact Or.inl ⟨v, vm₁, B, X₁.warmed, X', hpost, fun target h => hstep₁ _ fun acts => by rw [doInvoke_state]; exact hsteps.trans h⟩
  · exact Or.inr ⟨q, vm₁, B, X₁.warmed, X', hpost, hstep₁ _ fun acts => by rw [doInvoke_state]; exact hsteps⟩
end Calls
theorem vx_cls {s : State} {T : State} {vm₁ : Vm} {E : String} {k : ClassId} (hW : s.WarmedH vm₁) (h : (T.setVm vm₁).vm.findClass E = some k) : s.vm.findClass E = some k := by
  have h1 : vm₁.findClass E = some k := h
  rw [hW.alike.findClass] at h1
  exact h1
/-- the method's frame g, with q thrown over it -/
def vx_W (p : Program) (l : Launch) (e : Env) (R : Room) (s : State) (m : MethodId) (args : Array Value) (below : List Frame) (meth : Method) (c : Code) (H : Heap) (locs : List Loc) (cells slots : Nat) (Q : State → Prop) (g : JFrame) (q : Addr) : Prop :=
  ∀ T : State, T.heap = H → Stand p l e R s m args below meth c T locs cells slots → ∃ t, Steps p.tables e below ((T.setTop g).pushFrame (.throwing q)) t ∧ Q t
def vx_Run (p : Program) (l : Launch) (e : Env) (R : Room) (s : State) (m : MethodId) (args : Array Value) (below : List Frame) (meth : Method) (c : Code) (H : Heap) (locs : List Loc) (cells slots mc ms : Nat) (g : JFrame) (rest : List Value) (Qa : State → Outcome → State → Prop) (XC : String → State → State → Prop) (free : Addr → Prop) : Prop :=
  ∀ T : State, T.heap = H → Stand p l e R s m args below meth c T locs cells slots →
    (∃ (v : Option Value) (st₀ t T' : State) (L : List Loc), st₀.heap = H ∧ Stand p l e R s m args below meth c T' (locs ++ L) (cells + mc) (slots + ms) ∧ (∀ q ∈ L, free q.base) ∧ T'.heap = t.heap ∧ T'.vm = t.vm ∧ Qa st₀ (.returned v) t ∧
      Goes p e below T g T' { g with pc := g.pc + 3, stack := v.toList ++ rest }) ∨
    (∃ (q : Addr) (st₀ t T' : State) (L : List Loc) (E : String) (ce : Cell), st₀.heap = H ∧ Stand p l e R s m args below meth c T' (locs ++ L) (cells + mc) (slots + ms) ∧ (∀ z ∈ L, free z.base) ∧ T'.heap = t.heap ∧ T'.vm = t.vm ∧ XC E st₀ t ∧ t.heap[q]? = some ce ∧ ce.vm = .none ∧ s.vm.findClass E = some ce.cls ∧
      Steps p.tables e below (T.setTop g) ((T'.setTop { g with stack := rest }).pushFrame (.throwing q)))
def vx_X {S : Type} (px : S → Prop) (B : String → S → State → Prop) (A : Nat → Prop) : String → State → State → Prop := fun E st t => ∃ u : S, px u ∧ B E u t ∧ va_F A st t
section Runs
variable {p : Program} {l : Launch} {e : Env} {R : Room} {s : State} {m : MethodId} {args : Array Value} {below : List Frame} {meth : Method} {c : Code} {H : Heap} {locs : List Loc} {cells slots : Nat}
variable {y : MethodName} {bytes cc : ByteArray} {maxL nL mc ms n index : Nat} {ret : Option FieldType} {ws : List Cond} {rm : Room} {Pc : Array Value → State → Prop} {Qc : Array Value → State → Outcome → State → Prop} {XC : String → State → State → Prop} {free : Addr → Prop} {Ts : List Cond} {own C : String} {b : Addr} {As rest : List Value} {g : JFrame}
theorem vx_callBack (cb : CallB R s args own index y bytes maxL ret ws rm mc ms n) (hM : vx_Met l y ws rm Pc Qc XC mc ms free) (hbl : FrameBlind Pc) : vx_Back l R p e below s args y 3 8 (PreOf R mc ms Pc) (PostOf Qc mc ms free) (vx_Post XC mc ms free) := by
  obtain ⟨hrc, hrs, hfr, hlo, hws, hcw, -, hini, -⟩ := cb
  exact vx_back (bytes := bytes) (maxL := maxL) (ret := ret) hM hbl hrc hrs hfr hlo hws hcw (fun a' U hW => word_at hW (Or.inl (by first | rfl | simp [Cond.onTables, Cond.keeps, Cond.steady])) hini)
theorem vx_runV (S : CallFix p m c cc nL s args Ts own) (hM : vx_Met l y ws rm Pc Qc XC mc ms free) (cw : CallW R s args own C index y bytes maxL ret ws rm mc ms n) (hp : PreV s H C b Pc As)
    (hg : g.method = m) (hn : As.length = n) (hsize : g.locals.size = nL) (hstack : g.stack = As.reverse ++ .ref b :: rest) (hW : 2 * g.monitorRoom + (rest.map fun v => v.category).sum ≤ 8) (hdg : decode cc g.pc = .ok (.invokevirtual index, 3)) (hf : cells + mc ≤ R.cells ∧ slots + ms ≤ R.slots) :
    vx_Run p l e R s m args below meth c H locs cells slots mc ms g rest (Qc (Value.ref b :: As).toArray) XC free := by
  have hK : vx_Back l R p e below s args y 3 8 (PreOf R mc ms Pc) (PostOf Qc mc ms free) (vx_Post XC mc ms free) := vx_callBack cw.1 hM hp.1
  obtain ⟨⟨-, -, -, -, -, -, hcode, -, hy, hlen, hl⟩, hin, hse⟩ := cw
  obtain ⟨hx, hb, hml, ho, -⟩ := S
  obtain ⟨-, ⟨cellB, hcB, hoB, hclB⟩, hPc⟩ := hp
  intro T hT X
  rcases vx_callV X hx (C := C) (bytes := bytes) (maxL := maxL) (ret := ret) ho hl hin hse hcode hy hK (by rw [hT]; exact hcB) hoB hclB hg (hsize.trans hml.symm) (argsL := As) (rest := rest) (fun sig h => hn.trans (hlen sig h)) hstack hW (by rw [hb]; exact hdg)
    (fun vm₁ hW₁ => ⟨hf.1, hf.2, hPc (T.setVm vm₁) hT hW₁⟩) with ⟨v, vm₁, ⟨U', l2, c2, s2⟩, hW₁, X', ⟨g', mk, t, L, e1, e2, hq, h1, hL, h2, h3⟩, st⟩ | ⟨q, vm₁, ⟨U', l2, c2, s2⟩, hW₁, X', ⟨g', mk, t, L, E, ce, e1, e2, hq, hce, hcv, hcl, h1, hL, h2, h3⟩, st⟩
  · dsimp only [Pt.U, Pt.locs, Pt.cells, Pt.slots] at X' e1 e2 h1 h2 h3 st
    subst h1; subst h2; subst h3
    exact Or.inl ⟨v, (T.setVm vm₁).calling g' mk (Value.ref b :: As).toArray, t, U', L, hT, X', hL, e1, e2, hq, st⟩
  · dsimp only [Pt.U, Pt.locs, Pt.cells, Pt.slots] at X' e1 e2 h1 h2 h3 st hcl
    subst h1; subst h2; subst h3
    exact Or.inr ⟨q, (T.setVm vm₁).calling g' mk (Value.ref b :: As).toArray, t, U', L, E, ce, hT, X', hL, e1, e2, hq, hce, hcv, vx_cls hW₁ hcl, st⟩
theorem vx_runS (S : CallFix p m c cc nL s args Ts own) (hM : vx_Met l y ws rm Pc Qc XC mc ms free) (cw : CallB R s args own index y bytes maxL ret ws rm mc ms n ∧ (Cond.static y).before args s = true) (hp : PreS s H Pc As)
    (hg : g.method = m) (hn : As.length = n) (hsize : g.locals.size = nL) (hstack : g.stack = As.reverse ++ rest) (hW : 2 * g.monitorRoom + (rest.map fun v => v.category).sum ≤ 8) (hdg : decode cc g.pc = .ok (.invokestatic index, 3)) (hf : cells + mc ≤ R.cells ∧ slots + ms ≤ R.slots) :
    vx_Run p l e R s m args below meth c H locs cells slots mc ms g rest (Qc As.toArray) XC free := by
  have hK : vx_Back l R p e below s args y 3 8 (PreOf R mc ms Pc) (PostOf Qc mc ms free) (vx_Post XC mc ms free) := vx_callBack cw.1 hM hp.1
  obtain ⟨⟨-, -, -, -, -, -, hcode, hini, hy, hlen, hl⟩, hstt⟩ := cw
  obtain ⟨hx, hb, hml, ho, -⟩ := S
  intro T hT X
  rcases vx_callS X hx (bytes := bytes) (maxL := maxL) (ret := ret) ho hl hstt hini hcode hy hK hg (hsize.trans hml.symm) (argsL := As) (rest := rest) (fun sig h => hn.trans (hlen sig h)) hstack hW (by rw [hb]; exact hdg)
    (fun vm₁ hW₁ => ⟨hf.1, hf.2, hp.2 (T.setVm vm₁) hT hW₁⟩) with ⟨v, vm₁, ⟨U', l2, c2, s2⟩, hW₁, X', ⟨g', mk, t, L, e1, e2, hq, h1, hL, h2, h3⟩, st⟩ | ⟨q, vm₁, ⟨U', l2, c2, s2⟩, hW₁, X', ⟨g', mk, t, L, E, ce, e1, e2, hq, hce, hcv, hcl, h1, hL, h2, h3⟩, st⟩
  · dsimp only [Pt.U, Pt.locs, Pt.cells, Pt.slots] at X' e1 e2 h1 h2 h3 st
    subst h1; subst h2; subst h3
    exact Or.inl ⟨v, (T.setVm vm₁).calling g' mk As.toArray, t, U', L, hT, X', hL, e1, e2, hq, st⟩
  · dsimp only [Pt.U, Pt.locs, Pt.cells, Pt.slots] at X' e1 e2 h1 h2 h3 st hcl
    subst h1; subst h2; subst h3
    exact Or.inr ⟨q, (T.setVm vm₁).calling g' mk As.toArray, t, U', L, E, ce, hT, X', hL, e1, e2, hq, hce, hcv, vx_cls hW₁ hcl, st⟩
end Runs
section Rows
variable {p : Program} {l : Launch} {e : Env} {R : Room} {s : State} {m : MethodId} {args : Array Value} {below : List Frame} {meth : Method} {c : Code} {H : Heap} {locs : List Loc} {cells slots : Nat} {Q : State → Prop}
variable {mc ms : Nat} {free : Addr → Prop} {A0 A1 : Nat → Prop} {H0 : Heap} {a : Array Value} {pc : Nat} {ls : Array Slot} {st0 rest : List Value}
theorem vx_keep {st₀ t T' : State} {L : List Loc} (h0 : st₀.heap = H) (e1 : T'.heap = t.heap) (hS : va_S A0 H0 H locs) (hA : ∀ q, q < H.size → A1 q → A0 q) (hf : ∀ q, free q → A0 q) (hL : ∀ q ∈ L, free q.base) (hF : va_F A1 st₀ t) :
    H.size ≤ T'.heap.size ∧ (∀ q : Nat, q < H.size → ¬ A1 q → T'.heap[q]? = H[q]?) ∧ va_S A0 H0 T'.heap (locs ++ L) := by
  obtain ⟨hz, hk⟩ := hF
  rw [h0] at hz hk
  exact ⟨by rw [e1]; exact hz, fun q h1 h2 => by rw [e1]; exact hk q h1 h2,
    ⟨Nat.le_trans hS.1 (by rw [e1]; exact hz), fun q h1 h2 => by rw [e1, hk q (Nat.lt_of_lt_of_le h1 hS.1) (fun z => h2 (hA q (Nat.lt_of_lt_of_le h1 hS.1) z))]; exact hS.2.1 q h1 h2, fun q hq => by
      rcases List.mem_append.mp hq with h | h
      · exact hS.2.2 q h
      · exact hf _ (hL q h)⟩⟩
theorem vx_calli {S SX : Type} {post : Int32 → S → Prop} {px : SX → Prop} {B : S → State → Prop} {BX : String → SX → State → Prop} {AX : Nat → Prop} (hr : vx_Run p l e R s m args below meth c H locs cells slots mc ms (F0 m pc ls st0) rest (va_Qi post B A1 a) (vx_X px BX AX) free) (hS : va_S A0 H0 H locs) (hA : ∀ q, q < H.size → A1 q → A0 q) (hf : ∀ q, free q → A0 q) (hAX : ∀ q, q < H.size → AX q → A0 q)
    (kx : ∀ (E : String) (ce : Cell) (q9 : Addr) (u : SX) (t : State) (H1 : Heap) (locs1 : List Loc), t.heap = H1 → s.vm.Alike t.vm → px u → BX E u t → H.size ≤ H1.size → (∀ q : Nat, q < H.size → ¬ AX q → H1[q]? = H[q]?) → va_S A0 H0 H1 locs1 → H1[q9]? = some ce → ce.vm = .none → s.vm.findClass E = some ce.cls → vx_W p l e R s m args below meth c H1 locs1 (cells + mc) (slots + ms) Q (F0 m pc ls rest) q9)
    (kk : ∀ (r : Int32) (u : S) (t : State) (H1 : Heap) (locs1 : List Loc), t.heap = H1 → s.vm.Alike t.vm → post r u → B u t → H.size ≤ H1.size → (∀ q : Nat, q < H.size → ¬ A1 q → H1[q]? = H[q]?) → va_S A0 H0 H1 locs1 → W p l e R s m args below meth c H1 locs1 (cells + mc) (slots + ms) Q (F0 m (pc + 3) ls (.int r :: rest))) : W p l e R s m args below meth c H locs cells slots Q (F0 m pc ls st0) := by
  intro T hT X
  rcases hr T hT X with ⟨v, st₀, t, T', L, h0, X', hL, e1, e2, ⟨⟨r, u, hv, hp, hb⟩, hF⟩, st⟩ | ⟨q, st₀, t, T', L, E, ce, h0, X', hL, e1, e2, ⟨u, hp, hb, hF⟩, hce, hcv, hcl, st⟩
  · cases hv
    obtain ⟨k1, k2, k3⟩ := vx_keep h0 e1 hS hA hf hL hF
    obtain ⟨t2, a1, b1⟩ := kk r u t T'.heap (locs ++ L) e1.symm (by rw [← e2]; exact X'.warmed.alike) hp hb k1 k2 k3 T' rfl X'
    exact ⟨t2, st t2 a1, b1⟩
  · obtain ⟨k1, k2, k3⟩ := vx_keep h0 e1 hS hAX hf hL hF
    obtain ⟨t2, a1, b1⟩ := kx E ce q u t T'.heap (locs ++ L) e1.symm (by rw [← e2]; exact X'.warmed.alike) hp hb k1 k2 k3 (by rw [e1]; exact hce) hcv hcl T' rfl X'
    exact ⟨t2, st.trans a1, b1⟩
theorem vx_calll {S SX : Type} {post : Int64 → S → Prop} {px : SX → Prop} {B : S → State → Prop} {BX : String → SX → State → Prop} {AX : Nat → Prop} (hr : vx_Run p l e R s m args below meth c H locs cells slots mc ms (F0 m pc ls st0) rest (va_Ql post B A1 a) (vx_X px BX AX) free) (hS : va_S A0 H0 H locs) (hA : ∀ q, q < H.size → A1 q → A0 q) (hf : ∀ q, free q → A0 q) (hAX : ∀ q, q < H.size → AX q → A0 q)
    (kx : ∀ (E : String) (ce : Cell) (q9 : Addr) (u : SX) (t : State) (H1 : Heap) (locs1 : List Loc), t.heap = H1 → s.vm.Alike t.vm → px u → BX E u t → H.size ≤ H1.size → (∀ q : Nat, q < H.size → ¬ AX q → H1[q]? = H[q]?) → va_S A0 H0 H1 locs1 → H1[q9]? = some ce → ce.vm = .none → s.vm.findClass E = some ce.cls → vx_W p l e R s m args below meth c H1 locs1 (cells + mc) (slots + ms) Q (F0 m pc ls rest) q9)
    (kk : ∀ (r : Int64) (u : S) (t : State) (H1 : Heap) (locs1 : List Loc), t.heap = H1 → s.vm.Alike t.vm → post r u → B u t → H.size ≤ H1.size → (∀ q : Nat, q < H.size → ¬ A1 q → H1[q]? = H[q]?) → va_S A0 H0 H1 locs1 → W p l e R s m args below meth c H1 locs1 (cells + mc) (slots + ms) Q (F0 m (pc + 3) ls (.long r :: rest))) : W p l e R s m args below meth c H locs cells slots Q (F0 m pc ls st0) := by
  intro T hT X
  rcases hr T hT X with ⟨v, st₀, t, T', L, h0, X', hL, e1, e2, ⟨⟨r, u, hv, hp, hb⟩, hF⟩, st⟩ | ⟨q, st₀, t, T', L, E, ce, h0, X', hL, e1, e2, ⟨u, hp, hb, hF⟩, hce, hcv, hcl, st⟩
  · cases hv
    obtain ⟨k1, k2, k3⟩ := vx_keep h0 e1 hS hA hf hL hF
    obtain ⟨t2, a1, b1⟩ := kk r u t T'.heap (locs ++ L) e1.symm (by rw [← e2]; exact X'.warmed.alike) hp hb k1 k2 k3 T' rfl X'
    exact ⟨t2, st t2 a1, b1⟩
  · obtain ⟨k1, k2, k3⟩ := vx_keep h0 e1 hS hAX hf hL hF
    obtain ⟨t2, a1, b1⟩ := kx E ce q u t T'.heap (locs ++ L) e1.symm (by rw [← e2]; exact X'.warmed.alike) hp hb k1 k2 k3 (by rw [e1]; exact hce) hcv hcl T' rfl X'
    exact ⟨t2, st.trans a1, b1⟩
theorem vx_callf {S SX : Type} {post : UInt32 → S → Prop} {px : SX → Prop} {B : S → State → Prop} {BX : String → SX → State → Prop} {AX : Nat → Prop} (hr : vx_Run p l e R s m args below meth c H locs cells slots mc ms (F0 m pc ls st0) rest (va_Qf post B A1 a) (vx_X px BX AX) free) (hS : va_S A0 H0 H locs) (hA : ∀ q, q < H.size → A1 q → A0 q) (hf : ∀ q, free q → A0 q) (hAX : ∀ q, q < H.size → AX q → A0 q)
    (kx : ∀ (E : String) (ce : Cell) (q9 : Addr) (u : SX) (t : State) (H1 : Heap) (locs1 : List Loc), t.heap = H1 → s.vm.Alike t.vm → px u → BX E u t → H.size ≤ H1.size → (∀ q : Nat, q < H.size → ¬ AX q → H1[q]? = H[q]?) → va_S A0 H0 H1 locs1 → H1[q9]? = some ce → ce.vm = .none → s.vm.findClass E = some ce.cls → vx_W p l e R s m args below meth c H1 locs1 (cells + mc) (slots + ms) Q (F0 m pc ls rest) q9)
    (kk : ∀ (r : UInt32) (u : S) (t : State) (H1 : Heap) (locs1 : List Loc), t.heap = H1 → s.vm.Alike t.vm → post r u → B u t → H.size ≤ H1.size → (∀ q : Nat, q < H.size → ¬ A1 q → H1[q]? = H[q]?) → va_S A0 H0 H1 locs1 → W p l e R s m args below meth c H1 locs1 (cells + mc) (slots + ms) Q (F0 m (pc + 3) ls (.float r :: rest))) : W p l e R s m args below meth c H locs cells slots Q (F0 m pc ls st0) := by
  intro T hT X
  rcases hr T hT X with ⟨v, st₀, t, T', L, h0, X', hL, e1, e2, ⟨⟨r, u, hv, hp, hb⟩, hF⟩, st⟩ | ⟨q, st₀, t, T', L, E, ce, h0, X', hL, e1, e2, ⟨u, hp, hb, hF⟩, hce, hcv, hcl, st⟩
  · cases hv
    obtain ⟨k1, k2, k3⟩ := vx_keep h0 e1 hS hA hf hL hF
    obtain ⟨t2, a1, b1⟩ := kk r u t T'.heap (locs ++ L) e1.symm (by rw [← e2]; exact X'.warmed.alike) hp hb k1 k2 k3 T' rfl X'
    exact ⟨t2, st t2 a1, b1⟩
  · obtain ⟨k1, k2, k3⟩ := vx_keep h0 e1 hS hAX hf hL hF
    obtain ⟨t2, a1, b1⟩ := kx E ce q u t T'.heap (locs ++ L) e1.symm (by rw [← e2]; exact X'.warmed.alike) hp hb k1 k2 k3 (by rw [e1]; exact hce) hcv hcl T' rfl X'
    exact ⟨t2, st.trans a1, b1⟩
theorem vx_calld {S SX : Type} {post : UInt64 → S → Prop} {px : SX → Prop} {B : S → State → Prop} {BX : String → SX → State → Prop} {AX : Nat → Prop} (hr : vx_Run p l e R s m args below meth c H locs cells slots mc ms (F0 m pc ls st0) rest (va_Qd post B A1 a) (vx_X px BX AX) free) (hS : va_S A0 H0 H locs) (hA : ∀ q, q < H.size → A1 q → A0 q) (hf : ∀ q, free q → A0 q) (hAX : ∀ q, q < H.size → AX q → A0 q)
    (kx : ∀ (E : String) (ce : Cell) (q9 : Addr) (u : SX) (t : State) (H1 : Heap) (locs1 : List Loc), t.heap = H1 → s.vm.Alike t.vm → px u → BX E u t → H.size ≤ H1.size → (∀ q : Nat, q < H.size → ¬ AX q → H1[q]? = H[q]?) → va_S A0 H0 H1 locs1 → H1[q9]? = some ce → ce.vm = .none → s.vm.findClass E = some ce.cls → vx_W p l e R s m args below meth c H1 locs1 (cells + mc) (slots + ms) Q (F0 m pc ls rest) q9)
    (kk : ∀ (r : UInt64) (u : S) (t : State) (H1 : Heap) (locs1 : List Loc), t.heap = H1 → s.vm.Alike t.vm → post r u → B u t → H.size ≤ H1.size → (∀ q : Nat, q < H.size → ¬ A1 q → H1[q]? = H[q]?) → va_S A0 H0 H1 locs1 → W p l e R s m args below meth c H1 locs1 (cells + mc) (slots + ms) Q (F0 m (pc + 3) ls (.double r :: rest))) : W p l e R s m args below meth c H locs cells slots Q (F0 m pc ls st0) := by
  intro T hT X
  rcases hr T hT X with ⟨v, st₀, t, T', L, h0, X', hL, e1, e2, ⟨⟨r, u, hv, hp, hb⟩, hF⟩, st⟩ | ⟨q, st₀, t, T', L, E, ce, h0, X', hL, e1, e2, ⟨u, hp, hb, hF⟩, hce, hcv, hcl, st⟩
  · cases hv
    obtain ⟨k1, k2, k3⟩ := vx_keep h0 e1 hS hA hf hL hF
    obtain ⟨t2, a1, b1⟩ := kk r u t T'.heap (locs ++ L) e1.symm (by rw [← e2]; exact X'.warmed.alike) hp hb k1 k2 k3 T' rfl X'
    exact ⟨t2, st t2 a1, b1⟩
  · obtain ⟨k1, k2, k3⟩ := vx_keep h0 e1 hS hAX hf hL hF
    obtain ⟨t2, a1, b1⟩ := kx E ce q u t T'.heap (locs ++ L) e1.symm (by rw [← e2]; exact X'.warmed.alike) hp hb k1 k2 k3 (by rw [e1]; exact hce) hcv hcl T' rfl X'
    exact ⟨t2, st.trans a1, b1⟩
theorem vx_callv {S SX : Type} {post : S → Prop} {px : SX → Prop} {B : S → State → Prop} {BX : String → SX → State → Prop} {AX : Nat → Prop} (hr : vx_Run p l e R s m args below meth c H locs cells slots mc ms (F0 m pc ls st0) rest (va_Qv post B A1 a) (vx_X px BX AX) free) (hS : va_S A0 H0 H locs) (hA : ∀ q, q < H.size → A1 q → A0 q) (hf : ∀ q, free q → A0 q) (hAX : ∀ q, q < H.size → AX q → A0 q)
    (kx : ∀ (E : String) (ce : Cell) (q9 : Addr) (u : SX) (t : State) (H1 : Heap) (locs1 : List Loc), t.heap = H1 → s.vm.Alike t.vm → px u → BX E u t → H.size ≤ H1.size → (∀ q : Nat, q < H.size → ¬ AX q → H1[q]? = H[q]?) → va_S A0 H0 H1 locs1 → H1[q9]? = some ce → ce.vm = .none → s.vm.findClass E = some ce.cls → vx_W p l e R s m args below meth c H1 locs1 (cells + mc) (slots + ms) Q (F0 m pc ls rest) q9)
    (kk : ∀ (u : S) (t : State) (H1 : Heap) (locs1 : List Loc), t.heap = H1 → s.vm.Alike t.vm → post u → B u t → H.size ≤ H1.size → (∀ q : Nat, q < H.size → ¬ A1 q → H1[q]? = H[q]?) → va_S A0 H0 H1 locs1 → W p l e R s m args below meth c H1 locs1 (cells + mc) (slots + ms) Q (F0 m (pc + 3) ls (rest))) : W p l e R s m args below meth c H locs cells slots Q (F0 m pc ls st0) := by
  intro T hT X
  rcases hr T hT X with ⟨v, st₀, t, T', L, h0, X', hL, e1, e2, ⟨⟨u, hv, hp, hb⟩, hF⟩, st⟩ | ⟨q, st₀, t, T', L, E, ce, h0, X', hL, e1, e2, ⟨u, hp, hb, hF⟩, hce, hcv, hcl, st⟩
  · cases hv
    obtain ⟨k1, k2, k3⟩ := vx_keep h0 e1 hS hA hf hL hF
    obtain ⟨t2, a1, b1⟩ := kk u t T'.heap (locs ++ L) e1.symm (by rw [← e2]; exact X'.warmed.alike) hp hb k1 k2 k3 T' rfl X'
    exact ⟨t2, st t2 a1, b1⟩
  · obtain ⟨k1, k2, k3⟩ := vx_keep h0 e1 hS hAX hf hL hF
    obtain ⟨t2, a1, b1⟩ := kx E ce q u t T'.heap (locs ++ L) e1.symm (by rw [← e2]; exact X'.warmed.alike) hp hb k1 k2 k3 (by rw [e1]; exact hce) hcv hcl T' rfl X'
    exact ⟨t2, st.trans a1, b1⟩
/-- caught by the row x of this method's table; the rows ahead don't take it -/
theorem vx_catch {own name : String} {E : String} {ce : Cell} {q : Addr} (hown : s.vm.findClass own = some m.cls) (pre : List ExceptionTableEntry) (x : ExceptionTableEntry) (suf : List ExceptionTableEntry) (hsplit : c.exceptionTable.toList = pre ++ x :: suf)
    (hpass : ∀ z ∈ pre, covers z pc = false ∨ (z.catchType ≠ 0 ∧ ∃ nm : String, (Cond.classLink own z.catchType nm).before args s = true ∧ va_Nc E nm s)) (hx : covers x pc = true) (h0 : x.catchType ≠ 0)
    (hlink : (Cond.classLink own x.catchType name).before args s = true) (hcast : (Cond.castable E name).before args s = true) (hcell : H[q]? = some ce) (hv : ce.vm = .none) (hcl : s.vm.findClass E = some ce.cls)
    (kk : W p l e R s m args below meth c H locs cells slots Q (F0 m x.handlerPc ls [.ref q])) : vx_W p l e R s m args below meth c H locs cells slots Q (F0 m pc ls rest) q := by
  intro T hT X
  have hpl : e.platform.magicAccessors = ({} : Platform).magicAccessors := by rw [X.admits.platform]
  obtain ⟨c3, c4, hc3, hc4, hasg⟩ := Cond.castable_spec hcast
  cases Option.some.inj (hc3.symm.trans hcl)
  obtain ⟨c5, hc5, hcl5⟩ := Cond.classLink_spec hown hlink e.platform hpl
  cases Option.some.inj (hc4.symm.trans hc5)
  obtain ⟨vm', X', st⟩ := X.thenCaughtThrough q (g := F0 m pc ls rest) rfl (Steps.refl _) (by rw [hT]; exact hcell) (by rw [hv]; rfl) (by obtain ⟨k9, h9, -⟩ := Vm.findClass_spec hcl; exact ⟨k9, h9⟩) pre x suf hsplit
    (fun z hz => by
      rcases hpass z hz with h | ⟨hz0, nm, hl1, hn1⟩
      · exact Or.inl h
      · obtain ⟨c6, hc6, hcl6⟩ := Cond.classLink_spec hown hl1 e.platform hpl
        obtain ⟨a8, b8, h1, h2, h3⟩ := hn1
        cases Option.some.inj (h1.symm.trans hcl)
        cases Option.some.inj (h2.symm.trans hc6)
        exact Or.inr ⟨hz0, _, hcl6, h3⟩) hx (Or.inr ⟨h0, c4, hcl5, hasg⟩)
  obtain ⟨t, a1, b1⟩ := kk (T.setVm vm') hT X'
  exact ⟨t, st.trans a1, b1⟩
end Rows
section Ends
variable {p : Program} {l : Launch} {e : Env} {R : Room} {s : State} {m : MethodId} {args : Array Value} {below : List Frame} {meth : Method} {c : Code} {H : Heap} {locs : List Loc} {cells slots : Nat} {Q : State → Prop}
variable {mc ms : Nat} {free : Addr → Prop} {A0 A1 : Nat → Prop} {H0 : Heap} {a : Array Value} {ls : Array Slot} {st0 rest : List Value}
variable {Qc : Array Value → State → Outcome → State → Prop} {XC : String → State → State → Prop}
/-- what a body that may throw owes at its end -/
def vx_MQ (below : List Frame) (Qc : Array Value → State → Outcome → State → Prop) (XC : String → State → State → Prop) (a : Array Value) (s : State) (mc ms : Nat) (free : Addr → Prop) : State → Prop := fun t =>
  ∃ o, t.status = .running ∧ Ended t below o ∧ vx_Q Qc XC mc ms free a s o t
theorem vx_ret {g : JFrame} {mc ms : Nat} (k : W p l e R s m args below meth c H locs cells slots (MQ below Qc args s mc ms free) g) : W p l e R s m args below meth c H locs cells slots (vx_MQ below Qc XC args s mc ms free) g := by
  intro T hT X
  obtain ⟨t, a1, o, b1, b2, b3, b4⟩ := k T hT X
  exact ⟨t, a1, o, b1, b2, Or.inl ⟨b3, b4⟩⟩
/-- not caught here: it goes on to the caller -/
theorem vx_widen {g : JFrame} {q : Addr} {k n : Nat} (h1 : cells ≤ k) (h2 : slots ≤ n) (kk : vx_W p l e R s m args below meth c H locs k n Q g q) : vx_W p l e R s m args below meth c H locs cells slots Q g q := fun T hT X => kk T hT (stand_widen X h1 h2)
theorem vx_out {pc : Nat} {E : String} {ce : Cell} {q : Addr} {mc ms : Nat} (hout : ∀ x ∈ c.exceptionTable.toList, covers x pc = false) (hlocks : meth.locks = false) (hcell : H[q]? = some ce) (hv : ce.vm = .none) (hcl : s.vm.findClass E = some ce.cls)
    (hx : ∀ t : State, t.heap = H → s.vm.Alike t.vm → XC E s t) (hf : ∀ z ∈ locs, free z.base) (hc : cells ≤ mc) (hs : slots ≤ ms) :
    vx_W p l e R s m args below meth c H locs cells slots (vx_MQ below Qc XC args s mc ms free) (F0 m pc ls rest) q := by
  intro T hT X
  obtain ⟨st1, hrun, hend, hW, hsm⟩ := X.leaveThrown q (g := F0 m pc ls rest) rfl rfl rfl hout hlocks
  have hcell9 : (T.setFrames (.throwing q :: below)).heap[q]? = some ce := by
    show T.heap[q]? = some ce
    rw [hT]; exact hcell
  exact ⟨_, st1, .threw q, hrun, hend, Or.inr ⟨q, rfl, E, ce, locs, hx _ hT hW.alike, hcell9, hv, hcl, hW, hsm.mono hc hs, hf⟩⟩
theorem vx_frame {U : State} {k n : Nat} (h : s.sameButNew ({ U with vm := s.vm } : State) locs k n) : s.heap.size ≤ U.heap.size ∧ ∀ q : Nat, q < s.heap.size → (∀ z ∈ locs, z.base ≠ q) → U.heap[q]? = s.heap[q]? := by
  obtain ⟨-, h2, -, -, -, h6⟩ := h
  refine ⟨h2, fun q hq hz => ?_⟩
  obtain ⟨c9, e1, e2, e3, e4⟩ := h6 q _ (Array.getElem?_eq_getElem hq)
  have hs : c9.slots = (s.heap[q]).slots := Array.ext_getElem? fun i => e4 i fun hm => hz _ hm rfl
  have h9 : c9 = s.heap[q] := by
    rw [hs] at e2
    exact e2
  have e5 : U.heap[q]? = some c9 := e1
  rw [e5, h9, Array.getElem?_eq_getElem hq]
/-- the words of a throw but the four that speak of the heap -/
def vx_no (w : Cond) : Bool := decide (w ≠ .isRef (.static Bundle.tN "UNASSIGNED_STACK" Bundle.steD)) && decide (w ≠ .isRef (.static Bundle.tN "SUPPRESSED_SENTINEL" Bundle.listD)) && decide (w ≠ .laysStatic Bundle.tN "UNASSIGNED_STACK" Bundle.steD) && decide (w ≠ .laysStatic Bundle.tN "SUPPRESSED_SENTINEL" Bundle.listD)
def vx_at0 (own : String) (ic : Nat) (X : String) (names : List String) : List Cond := (Bundle.ownAtoms0 own ic X names).filter vx_no
def vx_atS (own : String) (ic : Nat) (X : String) (names : List String) : List Cond := (Bundle.ownAtoms own ic X names).filter vx_no
/-- a word that the tables alone decide, or a good one -/
def vx_ot (w : Cond) : Bool := w.onTables || goodWord w
theorem vx_ot_at {args a' : Array Value} {s U : State} {w : Cond} (hW : s.WarmedH U.vm) (hvm : s.vm = U.vm) (hg : vx_ot w = true) (h : w.before args s = true) : w.before a' U = true := by
  simp only [vx_ot, Bool.or_eq_true] at hg
  rcases hg with hg | hg
  · exact va_tabs hg hvm h
  · exact word_at hW (good_of_word hg) h
/-- a list's words: the good ones out of the method's own list, the others by premises of their own -/
theorem vx_hat {args : Array Value} {s : State} {L B : List Cond} (h1 : ∀ w ∈ L.filter goodWord, w.before args s = true) (h2 : ∀ w ∈ L.filter (fun w => !goodWord w), w ∈ B) (h3 : ∀ w ∈ B, w.before args s = true) : ∀ w ∈ L, w.before args s = true := by
  intro w hw
  by_cases g : goodWord w = true
  · exact h1 w (List.mem_filter.mpr ⟨hw, g⟩)
  · refine h3 w (h2 w (List.mem_filter.mpr ⟨hw, ?_⟩))
    show (!goodWord w) = true
    cases hgw : goodWord w
    · rfl
    · exact absurd hgw g
theorem vx_c {args : Array Value} {s : State} {w : Cond} {B : List Cond} (h : w.before args s = true) (t : ∀ w ∈ B, w.before args s = true) : ∀ w' ∈ w :: B, w'.before args s = true := fun w' h' => (List.mem_cons.mp h').elim (fun e => by rw [e]; exact h) (t w')
theorem vx_n {args : Array Value} {s : State} : ∀ w ∈ ([] : List Cond), w.before args s = true := fun _ h => nomatch h
theorem vx_own {args : Array Value} {s : State} {L : List Cond} (h1 : ∀ w ∈ L.filter vx_no, w.before args s = true)
    (hU : (Cond.isRef (.static Bundle.tN "UNASSIGNED_STACK" Bundle.steD)).before args s = true) (hN : (Cond.isRef (.static Bundle.tN "SUPPRESSED_SENTINEL" Bundle.listD)).before args s = true)
    (lU : (Cond.laysStatic Bundle.tN "UNASSIGNED_STACK" Bundle.steD).before args s = true) (lN : (Cond.laysStatic Bundle.tN "SUPPRESSED_SENTINEL" Bundle.listD).before args s = true) : ∀ w ∈ L, w.before args s = true := by
  intro w hw
  by_cases e1 : w = .isRef (.static Bundle.tN "UNASSIGNED_STACK" Bundle.steD)
  · rw [e1]; exact hU
  · by_cases e2 : w = .isRef (.static Bundle.tN "SUPPRESSED_SENTINEL" Bundle.listD)
    · rw [e2]; exact hN
    · by_cases e3 : w = .laysStatic Bundle.tN "UNASSIGNED_STACK" Bundle.steD
      · rw [e3]; exact lU
      · by_cases e4 : w = .laysStatic Bundle.tN "SUPPRESSED_SENTINEL" Bundle.listD
        · rw [e4]; exact lN
        · exact h1 w (List.mem_filter.mpr ⟨hw, by unfold vx_no; rw [decide_eq_true e1, decide_eq_true e2, decide_eq_true e3, decide_eq_true e4]; rfl⟩)
/-- where a static field lies, its class's statics cell in H -/
def vx_L (C n d : String) (A : Nat → Prop) (U : State) (H : Heap) : Prop := ∃ (c : ClassId) (k : Class) (i : Nat) (f : Field) (a : Nat) (cell : Cell), U.vm.findClass C = some c ∧ U.fieldFound? C n d = some (c, k, i, f) ∧ f.isStatic = true ∧ k.statics = some a ∧ H[a]? = some cell ∧ cell.vm.isStatics = true ∧ cell.cls = c ∧ f.slot < cell.slots.size ∧ k.staticTypes[f.slot]? = some f.type ∧ ¬ A a
theorem vx_L.moved {C n d : String} {A : Nat → Prop} {u U : State} {H : Heap} (hvm : u.vm.Alike U.vm) (h : vx_L C n d A u H) : vx_L C n d A U H := by
  obtain ⟨c, k, i, f, a, cell, h1, h2, h3, h4, h5, h6, h7, h8, h9, h10⟩ := h
  obtain ⟨k', hi', he⟩ := State.fieldFound?_setVm hvm h2
  exact ⟨c, k', i, f, a, cell, by rw [hvm.findClass]; exact h1, hi', h3, by rw [he]; exact h4, h5, h6, h7, h8, by rw [he]; exact h9, h10⟩
theorem vx_L.kept {C n d : String} {A : Nat → Prop} {U : State} {H H1 : Heap} (h : vx_L C n d A U H) (hq : ∀ a : Nat, a < H.size → ¬ A a → H1[a]? = H[a]?) : vx_L C n d A U H1 := by
  obtain ⟨c, k, i, f, a, cell, h1, h2, h3, h4, h5, h6, h7, h8, h9, h10⟩ := h
  exact ⟨c, k, i, f, a, cell, h1, h2, h3, h4, by rw [hq a (Array.getElem?_eq_some_iff.mp h5).1 h10]; exact h5, h6, h7, h8, h9, h10⟩
theorem vx_L.narrow {C n d : String} {A B : Nat → Prop} {U : State} {H : Heap} (h : vx_L C n d A U H) (hAB : ∀ q, B q → A q) : vx_L C n d B U H := by
  obtain ⟨c, k, i, f, a, cell, h1, h2, h3, h4, h5, h6, h7, h8, h9, h10⟩ := h
  exact ⟨c, k, i, f, a, cell, h1, h2, h3, h4, h5, h6, h7, h8, h9, fun z => h10 (hAB _ z)⟩
theorem vx_L.word {C n d : String} {A : Nat → Prop} {s : State} {args : Array Value} (h : vx_L C n d A s s.heap) : (Cond.laysStatic C n d).before args s = true := by
  obtain ⟨c, k, i, f, a, cell, h1, h2, h3, h4, h5, h6, h7, h8, h9, -⟩ := h
  show (Cond.laysStatic C n d).holds args s none s [] = true
  exact Cond.laysStatic_of h1 h2 h3 h4 h5 h6 h7 h8 h9
/-- .. and what it holds: null or some reference -/
def vx_Zq (C n d : String) (A : Nat → Prop) (U : State) (H : Heap) : Prop := va_Zq C n d A U H ∧ vx_L C n d A U H
theorem vx_Zq.moved {C n d : String} {A : Nat → Prop} {u U : State} {H : Heap} (hvm : u.vm.Alike U.vm) (h : vx_Zq C n d A u H) : vx_Zq C n d A U H := ⟨va_Zq.moved hvm h.1, vx_L.moved hvm h.2⟩
theorem vx_Zq.kept {C n d : String} {A : Nat → Prop} {U : State} {H H1 : Heap} (h : vx_Zq C n d A U H) (hq : ∀ a : Nat, a < H.size → ¬ A a → H1[a]? = H[a]?) : vx_Zq C n d A U H1 := ⟨va_Zq.kept h.1 hq, vx_L.kept h.2 hq⟩
theorem vx_Zq.narrow {C n d : String} {A B : Nat → Prop} {U : State} {H : Heap} (h : vx_Zq C n d A U H) (hAB : ∀ q, B q → A q) : vx_Zq C n d B U H := ⟨va_Zq.narrow h.1 hAB, vx_L.narrow h.2 hAB⟩
theorem vx_Zqof {args : Array Value} {s : State} {C n d : String} {A : Nat → Prop} (hl : (Cond.laysStatic C n d).before args s = true) (hini : (Cond.initialized C).before args s = true) (h : (Cond.isRef (.static C n d)).before args s = true) (hA : ∀ a : Nat, a < s.heap.size → ¬ A a) : vx_Zq C n d A s s.heap := by
  refine ⟨va_Zqof hl hini h hA, ?_⟩
  obtain ⟨c, k, i, f, a, cell, h1, h2, h3, h4, h5, h6, h7, h8, h9⟩ := Cond.laysStatic_spec hl
  exact ⟨c, k, i, f, a, cell, h1, h2, h3, h4, h5, h6, h7, h8, h9, hA a (Array.getElem?_eq_some_iff.mp h5).1⟩
theorem vx_isRef {C n d : String} {v : Value} {A : Nat → Prop} {s : State} {args : Array Value} (h : va_Z C n d v A s s.heap) (hv : v.isRef = true) : (Cond.isRef (.static C n d)).before args s = true := by
  obtain ⟨cf, kf, fi, f, a, cell, h1, h2, h3, h4, h5, h6, h7, -⟩ := h
  have he : (Term.static C n d).eval args s none [] s = some v := by
    simp [Term.eval, State.fieldNamed?, h1, h2, h4, h5, h6, h7]
  simp only [Cond.before, Cond.holds, Cond.value, he]
  cases v <;> simp_all [Value.isRef]
theorem vx_isRefq {C n d : String} {A : Nat → Prop} {s : State} {args : Array Value} (h : va_Zq C n d A s s.heap) : (Cond.isRef (.static C n d)).before args s = true := by
  rcases h with h | ⟨t, h⟩
  · exact vx_isRef h rfl
  · exact vx_isRef h rfl
/-- the same frame, seen from here: as if the method were called anew in this heap -/
theorem vx_rebase {T : State} (X : Stand p l e R s m args below meth c T locs cells slots) {R' : Room} (hf : R'.frames ≤ R.frames) (hl : R'.locals ≤ R.locals) (hc : cells + R'.cells ≤ R.cells) (hs : slots + R'.slots ≤ R.slots) :
    Stand p l e R' ((T.setVm s.vm).setFrames (.invoking m args :: below)) m args below meth c T [] 0 0 := by
  have htop : (T.setVm s.vm).topJava?.isSome := X.here.top
  have hF : ((T.setVm s.vm).setFrames (.invoking m args :: below)).frames = .invoking m args :: below := State.frames_setFrames _ (State.cur_lt_of_top htop)
  obtain ⟨g₀, hg0⟩ := Option.isSome_iff_exists.mp htop
  obtain ⟨r, hr⟩ := State.topJava?_eq_some.mp hg0
  have hl9 : e.platform.stackLimits (T.setVm s.vm).me = e.platform.stackLimits s.me := X.limits
  have hb9 : (T.setVm s.vm).me.stackBytes = s.me.stackBytes := X.bytes
  refine ⟨X.admits, X.cas, X.clock, hF, ?_, X.hears, X.method, X.code, X.here, X.tail, X.warmed, ?_, ?_, ?_⟩
  · have h := X.room
    have hU : ((T.setVm s.vm).setFrames (.invoking m args :: below)).localsInUse = s.localsInUse := by
      rw [State.localsInUse_invoking hF (meth := meth) (c := c) X.method X.code, State.localsInUse_invoking X.frames X.method X.code]
    simp only [State.hasRoom, Bool.and_eq_true, decide_eq_true_eq] at h ⊢
    obtain ⟨⟨⟨⟨h1, h2, h3, h4, h5, h6⟩, h7⟩, h8⟩, h9⟩ := h
    rw [X.frames, List.length_cons] at h2 h3
    have q1 := X.heapSize
    have q2 := X.used
    simp only [hF, hU, List.length_cons, State.stackLimits_setFrames, State.stackBytes_setFrames, hl9, hb9]
    refine ⟨⟨⟨⟨by omega, by omega, by omega, by omega, by omega, h6⟩, ?_⟩, ?_⟩, X.book⟩
    · show T.heap.size + R'.cells ≤ e.platform.maxCells
      omega
    · show T.slotsUsed + R'.slots ≤ e.platform.maxSlots
      omega
  · rw [State.stackLimits_setFrames]; rfl
  · rw [State.stackBytes_setFrames]; rfl
  · refine ⟨?_, Nat.le_refl _, Nat.le_refl _, ?_, ?_, fun a c9 h9 => ⟨c9, h9, rfl, rfl, fun _ _ => rfl⟩⟩
    · obtain ⟨t, ht, -⟩ := State.frames_cons hr
      show T.setVm s.vm = { ((T.setVm s.vm).setFrames (.invoking m args :: below)).setFrames (T.setVm s.vm).frames with heap := T.heap, slotsUsed := T.slotsUsed }
      rw [State.setFrames_setFrames, State.setFrames_self ht]
      rfl
    · show T.slotsUsed = T.slotsUsed + ((T.heap.toList.drop T.heap.size).map (·.slots.size)).sum
      rw [List.drop_eq_nil_of_le (Nat.le_of_eq Array.length_toList)]
      rfl
    · show ((T.heap.toList.drop T.heap.size).map (·.slots.size)).sum ≤ 0
      rw [List.drop_eq_nil_of_le (Nat.le_of_eq Array.length_toList)]
      exact Nat.le_refl _
/-- 'throw new E()': new; dup; invokespecial; athrow -/
theorem vx_throw0 {cc : ByteArray} {pc : Nat} (hexec : p.tables.exec = Jvm.exec) (hb : c.code = cc) (hl : l.stackTraces = false) {own cls : String} {names : List String} {ik ic mc ms : Nat} {A : Nat → Prop}
    (hown : s.vm.findClass own = some m.cls) (hcls : Bundle.fit cls = true) (hnames : ∀ n ∈ names, Bundle.fit n = true)
    (hk : (Cond.classLink own ik cls).before args s = true) (hini : (Cond.initialized cls).before args s = true) (hat : ∀ w ∈ vx_at0 own ic cls names, w.before args s = true)
    (hgood : ∀ w ∈ Cond.classLink own ik cls :: Cond.initialized cls :: vx_at0 own ic cls names, vx_ot w = true)
    (hU : vx_Zq Bundle.tN "UNASSIGNED_STACK" Bundle.steD A s s.heap) (hN : vx_Zq Bundle.tN "SUPPRESSED_SENTINEL" Bundle.listD A s s.heap) (hS : va_S A s.heap H locs) (hsize : ls.size = c.maxLocals)
    (d0 : decode cc pc = .ok (.new ik, 3)) (d3 : decode cc (pc + 3) = .ok (.dup, 1)) (d4 : decode cc (pc + 4) = .ok (.invokespecial ic, 3)) (d7 : decode cc (pc + 7) = .ok (.athrow, 1))
    (hout : ∀ x ∈ c.exceptionTable.toList, covers x (pc + 7) = false)
    (hRframes : names.length + 3 < R.frames) (hRlocals : (rest.map fun v => v.category).sum + (13 * (names.length + 1) + 42) ≤ R.locals) (hRcells : cells + 1 ≤ R.cells) (hRslots : slots + 6 ≤ R.slots) (hlocks : meth.locks = false)
    (hx : ∀ t : State, s.vm.Alike t.vm → H.size ≤ t.heap.size → (∀ q : Nat, q < H.size → t.heap[q]? = H[q]?) → XC cls s t)
    (hf : ∀ z ∈ locs, free z.base) (hc : cells + 1 ≤ mc) (hs : slots + 6 ≤ ms) :
    W p l e R s m args below meth c H locs cells slots (vx_MQ below Qc XC args s mc ms free) (F0 m pc ls rest) := by
  intro T hT X
  have htr : e.platform.stackTraces = false := (show e.platform.stackTraces = l.stackTraces by rw [X.admits.platform]).trans hl
  have Y := vx_rebase X (R' := { frames := R.frames, locals := R.locals, cells := 1, slots := 6 }) (Nat.le_refl _) (Nat.le_refl _) hRcells hRslots
  obtain ⟨s', hA⟩ : ∃ z, z = (T.setVm s.vm).setFrames (.invoking m args :: below) := ⟨_, rfl⟩
  rw [← hA] at Y
  have hvm : s'.vm = s.vm := by rw [hA]; rfl
  have hhp : s'.heap = H := by rw [hA]; exact hT
  have hW0 : s.WarmedH s'.vm := by rw [hvm]; exact State.WarmedH.refl s
  have hat' : ∀ w ∈ vx_at0 own ic cls names, w.before args s' = true := fun w hw => vx_ot_at hW0 hvm.symm (hgood w (List.mem_cons_of_mem _ (List.mem_cons_of_mem _ hw))) (hat w hw)
  have hk' : (Cond.classLink own ik cls).before args s' = true := vx_ot_at hW0 hvm.symm (hgood _ List.mem_cons_self) hk
  have hini' : (Cond.initialized cls).before args s' = true := vx_ot_at hW0 hvm.symm (hgood _ (List.mem_cons_of_mem _ List.mem_cons_self)) hini
  have hU' : vx_Zq Bundle.tN "UNASSIGNED_STACK" Bundle.steD A s' s'.heap := by rw [hhp]; exact vx_Zq.moved hW0.alike (hU.kept hS.2.1)
  have hN' : vx_Zq Bundle.tN "SUPPRESSED_SENTINEL" Bundle.listD A s' s'.heap := by rw [hhp]; exact vx_Zq.moved hW0.alike (hN.kept hS.2.1)
  have h : ∀ w ∈ Bundle.ownAtoms0 own ic cls names, w.before args s' = true := vx_own hat' (vx_isRefq hU'.1) (vx_isRefq hN'.1) hU'.2.word hN'.2.word
  have hown' : s'.vm.findClass own = some m.cls := by rw [hvm]; exact hown
  have hins : (Cond.instantiable cls 6).before args s' = true := h _ (by simp [Bundle.ownAtoms0])
  obtain ⟨vm₁, cX, kX, hfX, hkX, -, -, X₁, st1⟩ := Y.newCold hexec (own := own) (C := cls) (index := ik) (n := 6) hown' hk' hins hini'
    (g := F0 m pc ls rest) rfl (by rw [hb]; exact d0) (Nat.le_refl _) (Nat.le_refl _)
  generalize hT1 : (T.setVm vm₁).pushCell { cls := cX, slots := kX.instanceTypes.map defaultValue, vm := .none } = T1 at X₁ st1
  have hcat : (Value.ref T.heap.size).category = 1 := rfl
  have hcellA : T1.heap[T.heap.size]? = some (freshCell cX kX) := by rw [← hT1]; exact State.heap_pushCell_size _ _
  have d3' : decode c.code (pc + 3) = .ok (.dup, 1) := by rw [hb]; exact d3
  obtain ⟨U, hsteps, hrun, hend, hW, hsame, ce, hce, hO⟩ := X₁.ctorThrow0 hexec htr (own := own) (cls := cls) (names := names) (ic := ic) hown' hcls hnames h (fun x hx => nomatch hx) hfX hkX hcellA (by rw [hhp, hT]; exact Nat.le_refl _)
    (g := { method := m, pc := pc + 4, locals := ls, stack := .ref T.heap.size :: .ref T.heap.size :: rest, locked := none }) rfl hsize rfl rfl (rest := rest) rfl
    (by rw [hb]; exact d4) (by rw [hb]; exact d7) hout hRframes (by simp only [List.map_cons, List.sum_cons, hcat]; omega) hlocks
  obtain ⟨f1, f2⟩ := vx_frame hsame
  rw [hhp] at f1 f2
  have hWs : s.WarmedH U.vm := State.WarmedH.trans hW0 hW
  have hcl : s.vm.findClass cls = some ce.cls := by
    have h9 := hO.cls
    rw [hvm] at h9
    exact h9
  have hall : s.sameButNew ({ U with vm := s.vm } : State) locs mc ms := by
    subst hA
    obtain ⟨e1, e2⟩ := hsame
    rw [State.setFrames_setFrames] at e1
    have h2 : (T.setVm s.vm).sameButNew ({ U with vm := s.vm } : State) [] (0 + 1) (0 + 6) := ⟨e1, e2⟩
    have h3 := X.same.trans h2
    rw [List.append_nil] at h3
    exact h3.mono hc hs
  refine ⟨U, ?_, .threw T.heap.size, hrun, hend, Or.inr ⟨T.heap.size, rfl, cls, ce, locs, hx U hWs.alike f1 (fun q hq => f2 q hq (fun z hz => nomatch hz)), hce, hO.vm, hcl, hWs, hall, hf⟩⟩
  refine st1 _ ?_
  show Steps p.tables e below (T1.setTop { method := m, pc := pc + 3, locals := ls, stack := .ref T.heap.size :: rest, locked := none }) _
  jvm_step X₁.here [X₁.here.top, hexec, d3', Value.category]
  exact hsteps
/-- 'throw new E("text")': new; dup; ldc; invokespecial; athrow -/
theorem vx_throwS {cc : ByteArray} {pc : Nat} (hexec : p.tables.exec = Jvm.exec) (hb : c.code = cc) (hl : l.stackTraces = false) {own cls text : String} {names : List String} {ik is ic mc ms sa : Nat} {A : Nat → Prop}
    (hown : s.vm.findClass own = some m.cls) (hcls : Bundle.fit cls = true) (hnames : ∀ n ∈ names, Bundle.fit n = true)
    (hk : (Cond.classLink own ik cls).before args s = true) (hini : (Cond.initialized cls).before args s = true) (hstr : vk_R own is text sa s) (hat : ∀ w ∈ vx_atS own ic cls names, w.before args s = true)
    (hgood : ∀ w ∈ Cond.classLink own ik cls :: Cond.initialized cls :: vx_atS own ic cls names, vx_ot w = true)
    (hU : vx_Zq Bundle.tN "UNASSIGNED_STACK" Bundle.steD A s s.heap) (hN : vx_Zq Bundle.tN "SUPPRESSED_SENTINEL" Bundle.listD A s s.heap) (hS : va_S A s.heap H locs) (hsize : ls.size = c.maxLocals)
    (d0 : decode cc pc = .ok (.new ik, 3)) (d3 : decode cc (pc + 3) = .ok (.dup, 1)) (d4 : decode cc (pc + 4) = .ok (.ldc is, 2)) (d6 : decode cc (pc + 6) = .ok (.invokespecial ic, 3)) (d9 : decode cc (pc + 9) = .ok (.athrow, 1))
    (hout : ∀ x ∈ c.exceptionTable.toList, covers x (pc + 9) = false)
    (hRframes : names.length + 3 < R.frames) (hRlocals : (rest.map fun v => v.category).sum + (13 * (names.length + 1) + 43) ≤ R.locals) (hRcells : cells + 1 ≤ R.cells) (hRslots : slots + 6 ≤ R.slots) (hlocks : meth.locks = false)
    (hx : ∀ t : State, s.vm.Alike t.vm → H.size ≤ t.heap.size → (∀ q : Nat, q < H.size → t.heap[q]? = H[q]?) → XC cls s t)
    (hf : ∀ z ∈ locs, free z.base) (hc : cells + 1 ≤ mc) (hs : slots + 6 ≤ ms) :
    W p l e R s m args below meth c H locs cells slots (vx_MQ below Qc XC args s mc ms free) (F0 m pc ls rest) := by
  intro T hT X
  have htr : e.platform.stackTraces = false := (show e.platform.stackTraces = l.stackTraces by rw [X.admits.platform]).trans hl
  have Y := vx_rebase X (R' := { frames := R.frames, locals := R.locals, cells := 1, slots := 6 }) (Nat.le_refl _) (Nat.le_refl _) hRcells hRslots
  obtain ⟨s', hA⟩ : ∃ z, z = (T.setVm s.vm).setFrames (.invoking m args :: below) := ⟨_, rfl⟩
  rw [← hA] at Y
  have hvm : s'.vm = s.vm := by rw [hA]; rfl
  have hhp : s'.heap = H := by rw [hA]; exact hT
  have hW0 : s.WarmedH s'.vm := by rw [hvm]; exact State.WarmedH.refl s
  have hat' : ∀ w ∈ vx_atS own ic cls names, w.before args s' = true := fun w hw => vx_ot_at hW0 hvm.symm (hgood w (List.mem_cons_of_mem _ (List.mem_cons_of_mem _ hw))) (hat w hw)
  have hk' : (Cond.classLink own ik cls).before args s' = true := vx_ot_at hW0 hvm.symm (hgood _ List.mem_cons_self) hk
  have hini' : (Cond.initialized cls).before args s' = true := vx_ot_at hW0 hvm.symm (hgood _ (List.mem_cons_of_mem _ List.mem_cons_self)) hini
  have hU' : vx_Zq Bundle.tN "UNASSIGNED_STACK" Bundle.steD A s' s'.heap := by rw [hhp]; exact vx_Zq.moved hW0.alike (hU.kept hS.2.1)
  have hN' : vx_Zq Bundle.tN "SUPPRESSED_SENTINEL" Bundle.listD A s' s'.heap := by rw [hhp]; exact vx_Zq.moved hW0.alike (hN.kept hS.2.1)
  have h : ∀ w ∈ Bundle.ownAtoms own ic cls names, w.before args s' = true := vx_own hat' (vx_isRefq hU'.1) (vx_isRefq hN'.1) hU'.2.word hN'.2.word
  have hown' : s'.vm.findClass own = some m.cls := by rw [hvm]; exact hown
  have hins : (Cond.instantiable cls 6).before args s' = true := h _ (by simp [Bundle.ownAtoms])
  obtain ⟨vm₁, cX, kX, hfX, hkX, -, -, X₁, st1⟩ := Y.newCold hexec (own := own) (C := cls) (index := ik) (n := 6) hown' hk' hins hini'
    (g := F0 m pc ls rest) rfl (by rw [hb]; exact d0) (Nat.le_refl _) (Nat.le_refl _)
  generalize hT1 : (T.setVm vm₁).pushCell { cls := cX, slots := kX.instanceTypes.map defaultValue, vm := .none } = T1 at X₁ st1
  have hcat : (Value.ref T.heap.size).category = 1 := rfl
  have hcellA : T1.heap[T.heap.size]? = some (freshCell cX kX) := by rw [← hT1]; exact State.heap_pushCell_size _ _
  have d3' : decode c.code (pc + 3) = .ok (.dup, 1) := by rw [hb]; exact d3
  have d4' : decode c.code (pc + 4) = .ok (.ldc is, 2) := by rw [hb]; exact d4
  have hstr' : vk_R own is text sa s' := vk_R.warm hW0 hstr
  obtain ⟨U, hsteps, hrun, hend, hW, hsame, ce, hce, hO⟩ := X₁.ctorThrowS hexec htr (own := own) (cls := cls) (names := names) (ic := ic) hown' hcls hnames h (fun x hx => nomatch hx) hfX hkX hcellA (by rw [hhp, hT]; exact Nat.le_refl _) (msg := .ref sa) rfl
    (g := { method := m, pc := pc + 6, locals := ls, stack := .ref sa :: .ref T.heap.size :: .ref T.heap.size :: rest, locked := none }) rfl hsize rfl rfl (rest := rest) rfl
    (by rw [hb]; exact d6) (by rw [hb]; exact d9) hout hRframes (by simp only [List.map_cons, List.sum_cons, hcat]; omega) hlocks
  obtain ⟨f1, f2⟩ := vx_frame hsame
  rw [hhp] at f1 f2
  have hWs : s.WarmedH U.vm := State.WarmedH.trans hW0 hW
  have hcl : s.vm.findClass cls = some ce.cls := by
    have h9 := hO.cls
    rw [hvm] at h9
    exact h9
  have hall : s.sameButNew ({ U with vm := s.vm } : State) locs mc ms := by
    subst hA
    obtain ⟨e1, e2⟩ := hsame
    rw [State.setFrames_setFrames] at e1
    have h2 : (T.setVm s.vm).sameButNew ({ U with vm := s.vm } : State) [] (0 + 1) (0 + 6) := ⟨e1, e2⟩
    have h3 := X.same.trans h2
    rw [List.append_nil] at h3
    exact h3.mono hc hs
  refine ⟨U, ?_, .threw T.heap.size, hrun, hend, Or.inr ⟨T.heap.size, rfl, cls, ce, locs, hx U hWs.alike f1 (fun q hq => f2 q hq (fun z hz => nomatch hz)), hce, hO.vm, hcl, hWs, hall, hf⟩⟩
  refine st1 _ ?_
  show Steps p.tables e below (T1.setTop { method := m, pc := pc + 3, locals := ls, stack := .ref T.heap.size :: rest, locked := none }) _
  jvm_step X₁.here [X₁.here.top, hexec, d3', Value.category]
  exact X₁.ldcString hexec (own := own) (text := text) (index := is) (a := sa) hown' hstr'.1 hstr'.2
    (g := { method := m, pc := pc + 4, locals := ls, stack := .ref T.heap.size :: .ref T.heap.size :: rest, locked := none }) rfl d4' _ hsteps
/-- 'throw new E("text")', the text by a wide index -/
theorem vx_throwSW {cc : ByteArray} {pc : Nat} (hexec : p.tables.exec = Jvm.exec) (hb : c.code = cc) (hl : l.stackTraces = false) {own cls text : String} {names : List String} {ik is ic mc ms sa : Nat} {A : Nat → Prop}
    (hown : s.vm.findClass own = some m.cls) (hcls : Bundle.fit cls = true) (hnames : ∀ n ∈ names, Bundle.fit n = true)
    (hk : (Cond.classLink own ik cls).before args s = true) (hini : (Cond.initialized cls).before args s = true) (hstr : vk_R own is text sa s) (hat : ∀ w ∈ vx_atS own ic cls names, w.before args s = true)
    (hgood : ∀ w ∈ Cond.classLink own ik cls :: Cond.initialized cls :: vx_atS own ic cls names, vx_ot w = true)
    (hU : vx_Zq Bundle.tN "UNASSIGNED_STACK" Bundle.steD A s s.heap) (hN : vx_Zq Bundle.tN "SUPPRESSED_SENTINEL" Bundle.listD A s s.heap) (hS : va_S A s.heap H locs) (hsize : ls.size = c.maxLocals)
    (d0 : decode cc pc = .ok (.new ik, 3)) (d3 : decode cc (pc + 3) = .ok (.dup, 1)) (d4 : decode cc (pc + 4) = .ok (.ldc_w is, 3)) (d7 : decode cc (pc + 7) = .ok (.invokespecial ic, 3)) (d10 : decode cc (pc + 10) = .ok (.athrow, 1))
    (hout : ∀ x ∈ c.exceptionTable.toList, covers x (pc + 10) = false)
    (hRframes : names.length + 3 < R.frames) (hRlocals : (rest.map fun v => v.category).sum + (13 * (names.length + 1) + 43) ≤ R.locals) (hRcells : cells + 1 ≤ R.cells) (hRslots : slots + 6 ≤ R.slots) (hlocks : meth.locks = false)
    (hx : ∀ t : State, s.vm.Alike t.vm → H.size ≤ t.heap.size → (∀ q : Nat, q < H.size → t.heap[q]? = H[q]?) → XC cls s t)
    (hf : ∀ z ∈ locs, free z.base) (hc : cells + 1 ≤ mc) (hs : slots + 6 ≤ ms) :
    W p l e R s m args below meth c H locs cells slots (vx_MQ below Qc XC args s mc ms free) (F0 m pc ls rest) := by
  intro T hT X
  have htr : e.platform.stackTraces = false := (show e.platform.stackTraces = l.stackTraces by rw [X.admits.platform]).trans hl
  have Y := vx_rebase X (R' := { frames := R.frames, locals := R.locals, cells := 1, slots := 6 }) (Nat.le_refl _) (Nat.le_refl _) hRcells hRslots
  obtain ⟨s', hA⟩ : ∃ z, z = (T.setVm s.vm).setFrames (.invoking m args :: below) := ⟨_, rfl⟩
  rw [← hA] at Y
  have hvm : s'.vm = s.vm := by rw [hA]; rfl
  have hhp : s'.heap = H := by rw [hA]; exact hT
  have hW0 : s.WarmedH s'.vm := by rw [hvm]; exact State.WarmedH.refl s
  have hat' : ∀ w ∈ vx_atS own ic cls names, w.before args s' = true := fun w hw => vx_ot_at hW0 hvm.symm (hgood w (List.mem_cons_of_mem _ (List.mem_cons_of_mem _ hw))) (hat w hw)
  have hk' : (Cond.classLink own ik cls).before args s' = true := vx_ot_at hW0 hvm.symm (hgood _ List.mem_cons_self) hk
  have hini' : (Cond.initialized cls).before args s' = true := vx_ot_at hW0 hvm.symm (hgood _ (List.mem_cons_of_mem _ List.mem_cons_self)) hini
  have hU' : vx_Zq Bundle.tN "UNASSIGNED_STACK" Bundle.steD A s' s'.heap := by rw [hhp]; exact vx_Zq.moved hW0.alike (hU.kept hS.2.1)
  have hN' : vx_Zq Bundle.tN "SUPPRESSED_SENTINEL" Bundle.listD A s' s'.heap := by rw [hhp]; exact vx_Zq.moved hW0.alike (hN.kept hS.2.1)
  have h : ∀ w ∈ Bundle.ownAtoms own ic cls names, w.before args s' = true := vx_own hat' (vx_isRefq hU'.1) (vx_isRefq hN'.1) hU'.2.word hN'.2.word
  have hown' : s'.vm.findClass own = some m.cls := by rw [hvm]; exact hown
  have hins : (Cond.instantiable cls 6).before args s' = true := h _ (by simp [Bundle.ownAtoms])
  obtain ⟨vm₁, cX, kX, hfX, hkX, -, -, X₁, st1⟩ := Y.newCold hexec (own := own) (C := cls) (index := ik) (n := 6) hown' hk' hins hini'
    (g := F0 m pc ls rest) rfl (by rw [hb]; exact d0) (Nat.le_refl _) (Nat.le_refl _)
  generalize hT1 : (T.setVm vm₁).pushCell { cls := cX, slots := kX.instanceTypes.map defaultValue, vm := .none } = T1 at X₁ st1
  have hcat : (Value.ref T.heap.size).category = 1 := rfl
  have hcellA : T1.heap[T.heap.size]? = some (freshCell cX kX) := by rw [← hT1]; exact State.heap_pushCell_size _ _
  have d3' : decode c.code (pc + 3) = .ok (.dup, 1) := by rw [hb]; exact d3
  have d4' : decode c.code (pc + 4) = .ok (.ldc_w is, 3) := by rw [hb]; exact d4
  have hstr' : vk_R own is text sa s' := vk_R.warm hW0 hstr
  obtain ⟨U, hsteps, hrun, hend, hW, hsame, ce, hce, hO⟩ := X₁.ctorThrowS hexec htr (own := own) (cls := cls) (names := names) (ic := ic) hown' hcls hnames h (fun x hx => nomatch hx) hfX hkX hcellA (by rw [hhp, hT]; exact Nat.le_refl _) (msg := .ref sa) rfl
    (g := { method := m, pc := pc + 7, locals := ls, stack := .ref sa :: .ref T.heap.size :: .ref T.heap.size :: rest, locked := none }) rfl hsize rfl rfl (rest := rest) rfl
    (by rw [hb]; exact d7) (by rw [hb]; exact d10) hout hRframes (by simp only [List.map_cons, List.sum_cons, hcat]; omega) hlocks
  obtain ⟨f1, f2⟩ := vx_frame hsame
  rw [hhp] at f1 f2
  have hWs : s.WarmedH U.vm := State.WarmedH.trans hW0 hW
  have hcl : s.vm.findClass cls = some ce.cls := by
    have h9 := hO.cls
    rw [hvm] at h9
    exact h9
  have hall : s.sameButNew ({ U with vm := s.vm } : State) locs mc ms := by
    subst hA
    obtain ⟨e1, e2⟩ := hsame
    rw [State.setFrames_setFrames] at e1
    have h2 : (T.setVm s.vm).sameButNew ({ U with vm := s.vm } : State) [] (0 + 1) (0 + 6) := ⟨e1, e2⟩
    have h3 := X.same.trans h2
    rw [List.append_nil] at h3
    exact h3.mono hc hs
  refine ⟨U, ?_, .threw T.heap.size, hrun, hend, Or.inr ⟨T.heap.size, rfl, cls, ce, locs, hx U hWs.alike f1 (fun q hq => f2 q hq (fun z hz => nomatch hz)), hce, hO.vm, hcl, hWs, hall, hf⟩⟩
  refine st1 _ ?_
  show Steps p.tables e below (T1.setTop { method := m, pc := pc + 3, locals := ls, stack := .ref T.heap.size :: rest, locked := none }) _
  jvm_step X₁.here [X₁.here.top, hexec, d3', Value.category]
  exact X₁.ldcStringW hexec (own := own) (text := text) (index := is) (a := sa) hown' hstr'.1 hstr'.2
    (g := { method := m, pc := pc + 4, locals := ls, stack := .ref T.heap.size :: .ref T.heap.size :: rest, locked := none }) rfl d4' _ hsteps
end Ends
section Bodies
variable {l : Launch}
theorem vx_ofW {y : MethodName} {ws ws' : List Cond} {rm : Room} {Pc : Array Value → State → Prop} {Qc : Array Value → State → Outcome → State → Prop} {XC : String → State → State → Prop} {mc ms : Nat} {free : Addr → Prop} {cc : ByteArray} {maxL : Nat} {ret : Option FieldType}
    (hy : plainName y.cls = true) (hw : ws = Cond.code y cc maxL ret :: ws')
    (body : ∀ p e s m args below meth c s₁, BodyLoose p l y (headSpec ws rm) cc maxL ret e s m args below meth c s₁ → c.maxLocals = maxL → (∀ x ∈ c.exceptionTable.toList, False) → Pc args s →
      W p l e (headSpec ws rm).room s m args below meth c s.heap [] 0 0 (vx_MQ below Qc XC args s mc ms free) (entryFrame m args maxL)) : vx_Met l y ws rm Pc Qc XC mc ms free := by
  refine MetFree.of_bodyS (code := cc) (maxLocals := maxL) (ret := ret) hy ?_ ?_
  · intro args s m h hn
    obtain ⟨meth, c, h1, h2, h3, h4, h5, h6, -, -⟩ := Cond.code_spec hn (atoms_spec (ws := ws) h _ (by rw [hw]; exact List.mem_cons_self))
    exact ⟨meth, c, h1, h2, h3, h4, h5, h6⟩
  · intro p e s m args below meth c s₁ B hml hP _
    have hh0 : s₁.heap = s.heap := by rw [B.state]; rfl
    have ht : ∀ x ∈ c.exceptionTable.toList, False := by
      obtain ⟨meth9, c9, h1, h2, -, -, -, -, h7, -⟩ := Cond.code_spec B.named (atoms_spec (ws := ws) B.pre _ (by rw [hw]; exact List.mem_cons_self))
      cases Option.some.inj (h1.symm.trans B.method)
      cases Option.some.inj (h2.symm.trans (Stand.of_body B).code)
      intro x hx
      rw [Array.isEmpty_iff.mp h7] at hx
      cases hx
    obtain ⟨t, a1, o, b1, b2, b3⟩ := body p e s m args below meth c s₁ B hml ht hP s₁ hh0 (Stand.of_body B)
    exact ⟨t, o, a1, b1, b2, b3⟩
/-- the table of a body with handlers -/
theorem vx_table {p : Program} {x y : MethodName} {S : Spec} {cc bytes : ByteArray} {maxL maxL' : Nat} {ret ret' : Option FieldType} {e : Env} {s s₁ : State} {m : MethodId} {args : Array Value} {below : List Frame} {meth : Method} {c : Code} {hh : List (Nat × Nat × Nat × Nat)}
    (B : BodyLoose p l y S cc maxL ret e s m args below meth c s₁) (h : (Cond.codeWith y bytes maxL' ret' hh).before args s = true) : c.exceptionTable.toList = tableOf hh := by
  obtain ⟨m9, meth9, c9, hn9, h1, h2, -, -, h6, -⟩ := Cond.codeWith_spec h
  cases Option.some.inj (hn9.symm.trans B.named)
  cases Option.some.inj (h1.symm.trans B.method)
  cases Option.some.inj (h2.symm.trans (Stand.of_body B).code)
  rw [← h6, table_eq]
end Bodies
end VXA
/-! ===== END ===== -/
/-! ===== BEGIN a static call of a method with an exception table ===== -/
section VXS
variable {p : Program} {l : Launch} {e : Env} {R : Room} {s : State} {m : MethodId} {args : Array Value} {below : List Frame} {meth : Method} {c : Code} {T : State} {H : Heap} {locs : List Loc} {cells slots : Nat}
abbrev vx_CSW (R : Room) (s : State) (args : Array Value) (own : String) (index : Nat) (y : MethodName) (bytes : ByteArray) (maxL : Nat) (ret : Option FieldType) (hh : List (Nat × Nat × Nat × Nat)) (ws : List Cond) (rm : Room) (mc ms n : Nat) : Prop :=
  (rm.cells = mc ∧ rm.slots = ms ∧ rm.frames + 1 ≤ R.frames ∧ 8 + (maxL + 11) + rm.locals ≤ R.locals ∧ (∀ w ∈ ws, ∀ (a' : Array Value) (U : State), s.WarmedH U.vm → w.before a' U = true) ∧ Cond.codeWith y bytes maxL ret hh ∈ ws) ∧
  (Cond.codeWith y bytes maxL ret hh).before args s = true ∧ (Cond.initialized y.cls).before args s = true ∧ (y.cls ≠ "java/lang/invoke/MethodHandle" ∧ y.cls ≠ "java/lang/invoke/VarHandle") ∧
  (∀ sig, parseMethodDescriptor y.desc = some sig → n = sig.parameters.length) ∧ (Cond.methodLink own index y).before args s = true ∧ (Cond.static y).before args s = true
theorem vx_cwSW {own : String} {index maxL mc ms : Nat} {y : MethodName} {bytes : ByteArray} {ret : Option FieldType} {hh : List (Nat × Nat × Nat × Nat)} {Ts ws ws' : List Cond} {rm : Room} (n : Nat) (ht : ∀ w ∈ Ts, w.before args s = true) (hT : GoodIn Ts (va_wsS own index y ws)) (hw : ws = Cond.codeWith y bytes maxL ret hh :: ws') (hrc : rm.cells = mc) (hrs : rm.slots = ms)
    (hd : y.cls ≠ "java/lang/invoke/MethodHandle" ∧ y.cls ≠ "java/lang/invoke/VarHandle" ∧ (parseMethodDescriptor y.desc).map (fun d => d.parameters.length) = some n) (hR : rm.frames + 1 ≤ R.frames ∧ 8 + (maxL + 11) + rm.locals ≤ R.locals) :
    vx_CSW R s args own index y bytes maxL ret hh ws rm mc ms n := by
  have ok : ∀ w ∈ va_wsS own index y ws, w.before args s = true := fun w h => ht w (hT w h).1
  have hG : GoodIn Ts ws := fun w h => hT w (by unfold va_wsS; exact List.mem_append_right _ h)
  have hc : Cond.codeWith y bytes maxL ret hh ∈ ws := by rw [hw]; exact List.mem_cons_self
  refine ⟨⟨hrc, hrs, hR.1, hR.2, pay_in ht hG, hc⟩, ht _ (hG _ hc).1, ok _ (by simp [va_wsS]), ⟨hd.1, hd.2.1⟩, fun sig h => ?_, ok _ (by simp [va_wsS]), ok _ (by simp [va_wsS])⟩
  have h2 := hd.2.2
  rw [h] at h2
  exact (Option.some.inj h2).symm
theorem vx_callSW (X : Stand p l e R s m args below meth c T locs cells slots) (hexec : p.tables.exec = Jvm.exec) {own : String} {index : Nat} {y : MethodName} {bytes : ByteArray} {maxL : Nat} {ret : Option FieldType} {hh : List (Nat × Nat × Nat × Nat)}
    (hown : s.vm.findClass own = some m.cls) (hlink : (Cond.methodLink own index y).before args s = true) (hstat : (Cond.static y).before args s = true) (hinit : (Cond.initialized y.cls).before args s = true)
    (hcode : (Cond.codeWith y bytes maxL ret hh).before args s = true) (hy : y.cls ≠ "java/lang/invoke/MethodHandle" ∧ y.cls ≠ "java/lang/invoke/VarHandle")
    {W9 : Nat} {Pre : Pt → Array Value → Prop} {Post : Pt → Array Value → Option Value → Pt → Prop} (hK : Back l R p e below s args y 3 W9 Pre Post)
    {g : JFrame} (hg : g.method = m) (hsize : g.locals.size = c.maxLocals) {argsL rest : List Value} (hlen : ∀ sig, parseMethodDescriptor y.desc = some sig → argsL.length = sig.parameters.length)
    (hstack : g.stack = argsL.reverse ++ rest) (hW : 2 * g.monitorRoom + (rest.map fun v => v.category).sum ≤ W9) (hdg : decode c.code g.pc = .ok (.invokestatic index, 3))
    (hpre : ∀ vm₁, s.WarmedH vm₁ → Pre ⟨T.setVm vm₁, locs, cells, slots⟩ argsL.toArray) :
    ∃ (v : Option Value) (vm₁ : Vm) (B : Pt), s.WarmedH vm₁ ∧ Stand p l e R s m args below meth c B.U B.locs B.cells B.slots ∧ Post ⟨T.setVm vm₁, locs, cells, slots⟩ argsL.toArray v B ∧
      ∀ target, Steps p.tables e below (B.U.setTop { g with pc := g.pc + 3, stack := v.toList ++ rest }) target → Steps p.tables e below (T.setTop g) target := by
  obtain ⟨mk, methM, cM, hnamed, hmethM, -, -, -, -, -, -, hsigM⟩ := Cond.codeWith_spec hcode
  have hstatic : methM.isStatic = true := Cond.static_spec hnamed hmethM hstat
  obtain ⟨kP, hkP, -⟩ := className_of_methodNamed hnamed
  have hinitP : kP.init = .initialized := Cond.initialized_spec (findClass_of_methodNamed hnamed) hkP hinit
  obtain ⟨vm₁, X₁, hstep₁⟩ := X.invokestatic hexec hown hlink hnamed hmethM hstatic hkP hinitP hy (g := g) hg (argsL := argsL) (rest := rest) (hlen _ hsigM) hstack hdg
  obtain ⟨v, B, X', hpost, hsteps⟩ := hK m meth c ⟨T.setVm vm₁, locs, cells, slots⟩ { g with stack := rest } (.invokestatic index) mk argsL.toArray X₁ hg hsize hdg hW (X₁.named hnamed) (hpre vm₁ X₁.warmed)
  exact ⟨v, vm₁, B, X₁.warmed, X', hpost, fun target h => hstep₁ _ fun acts => by rw [doInvoke_state]; exact hsteps.trans h⟩
theorem vx_runSW {y : MethodName} {bytes cc : ByteArray} {maxL nL mc ms n index : Nat} {ret : Option FieldType} {hh : List (Nat × Nat × Nat × Nat)} {ws : List Cond} {rm : Room} {Pc : Array Value → State → Prop} {Qc : Array Value → State → Outcome → State → Prop} {free : Addr → Prop} {Ts : List Cond} {own : String} {As rest : List Value} {g : JFrame}
    (S : CallFix p m c cc nL s args Ts own) (hM : Met l y ws rm Pc Qc mc ms free) (cw : vx_CSW R s args own index y bytes maxL ret hh ws rm mc ms n) (hp : PreS s H Pc As)
    (hg : g.method = m) (hn : As.length = n) (hsize : g.locals.size = nL) (hstack : g.stack = As.reverse ++ rest) (hW : 2 * g.monitorRoom + (rest.map fun v => v.category).sum ≤ 8) (hdg : decode cc g.pc = .ok (.invokestatic index, 3)) (hf : cells + mc ≤ R.cells ∧ slots + ms ≤ R.slots) :
    va_Run p l e R s m args below meth c H locs cells slots mc ms g rest (Qc As.toArray) (free) := by
  obtain ⟨⟨hrc, hrs, hfr, hlo, hws, hcw⟩, hcode, hini, hy, hlen, hl, hstt⟩ := cw
  have hK : Back l R p e below s args y 3 8 (PreOf R mc ms Pc) (PostOf Qc mc ms free) := va_backW (hh := hh) (bytes := bytes) (maxL := maxL) (ret := ret) hM hp.1 hrc hrs hfr hlo hws hcw (fun a' U hW => word_at hW (Or.inl (by first | rfl | simp [Cond.onTables, Cond.keeps, Cond.steady])) hini)
  obtain ⟨hx, hb, hml, ho, -⟩ := S
  intro T hT X
  obtain ⟨v, vm₁, ⟨U', l2, c2, s2⟩, hW₁, X', ⟨g', mk, t, L, e1, e2, hq, h1, hL, h2, h3⟩, st⟩ := vx_callSW X hx (hh := hh) (bytes := bytes) (maxL := maxL) (ret := ret) ho hl hstt hini hcode hy hK hg (hsize.trans hml.symm) (argsL := As) (rest := rest) (fun sig h => hn.trans (hlen sig h)) hstack hW (by rw [hb]; exact hdg)
    (fun vm₁ hW₁ => ⟨hf.1, hf.2, hp.2 (T.setVm vm₁) hT hW₁⟩)
  dsimp only [Pt.U, Pt.locs, Pt.cells, Pt.slots] at X' e1 e2 h1 h2 h3 st
  subst h1; subst h2; subst h3
  exact ⟨v, (T.setVm vm₁).calling g' mk As.toArray, t, U', L, hT, X', hL, e1, e2, hq, st⟩
/-- not caught here, past rows that name other classes: it goes on to the caller -/
theorem vx_outP {p : Program} {l : Launch} {e : Env} {R : Room} {s : State} {m : MethodId} {args : Array Value} {below : List Frame} {meth : Method} {c : Code} {H : Heap} {locs : List Loc} {cells slots : Nat} {free : Addr → Prop} {ls : Array Slot} {rest : List Value} {Qc : Array Value → State → Outcome → State → Prop} {XC : String → State → State → Prop}
    {pc : Nat} {own E : String} {ce : Cell} {q : Addr} {mc ms : Nat} (hown : s.vm.findClass own = some m.cls) (hlocks : meth.locks = false)
    (hpass : ∀ z ∈ c.exceptionTable.toList, covers z pc = false ∨ (z.catchType ≠ 0 ∧ ∃ nm : String, (Cond.classLink own z.catchType nm).before args s = true ∧ va_Nc E nm s)) (hcell : H[q]? = some ce) (hv : ce.vm = .none) (hcl : s.vm.findClass E = some ce.cls)
    (hx : ∀ t : State, t.heap = H → s.vm.Alike t.vm → XC E s t) (hf : ∀ z ∈ locs, free z.base) (hc : cells ≤ mc) (hs : slots ≤ ms) :
    vx_W p l e R s m args below meth c H locs cells slots (vx_MQ below Qc XC args s mc ms free) (F0 m pc ls rest) q := by
  intro T hT X
  have hpl : e.platform.magicAccessors = ({} : Platform).magicAccessors := by rw [X.admits.platform]
  obtain ⟨vm', hW', X', st⟩ := X.outThrough hlocks q (g := F0 m pc ls rest) rfl rfl rfl (cell := ce) (by rw [hT]; exact hcell) (by rw [hv]; rfl)
    (by obtain ⟨k9, h9, -⟩ := Vm.findClass_spec hcl; exact ⟨k9, h9⟩) (fun z hz => by
      rcases hpass z hz with h | ⟨hz0, nm, hl1, hn1⟩
      · exact Or.inl h
      · obtain ⟨c6, hc6, hcl6⟩ := Cond.classLink_spec hown hl1 e.platform hpl
        obtain ⟨a8, b8, h1, h2, h3⟩ := hn1
        cases Option.some.inj (h1.symm.trans hcl)
        cases Option.some.inj (h2.symm.trans hc6)
        exact Or.inr ⟨hz0, _, hcl6, h3⟩)
  obtain ⟨g₀, hfr⟩ := X'.frames_eq
  have hcell9 : ((T.setVm vm').setFrames (.throwing q :: below)).heap[q]? = some ce := by
    show T.heap[q]? = some ce
    rw [hT]; exact hcell
  have hend : Ended ((T.setVm vm').setFrames (.throwing q :: below)) below (.threw q) := State.frames_setFrames _ (State.cur_lt_of_frames hfr)
  refine ⟨(T.setVm vm').setFrames (.throwing q :: below), ?_, .threw q, X'.here.running, hend, Or.inr ⟨q, rfl, E, ce, locs, hx _ hT (X'.ends _).1.alike, hcell9, hv, hcl, (X'.ends _).1, (X'.ends _).2.mono hc hs, hf⟩⟩
  rw [X.pushThrowing_eq]
  exact st
/-- a thing of a world lies in the heap -/
theorem vx_lt {D : va_G} {cl : List vw_C} {ws : va_W} {H1 : Heap} (h : va_P D cl ws H1) {k : Nat} {q : Nat × va_E} (hk : ws[k]? = some q) : q.1 < H1.size := (h k q hk).lt
end VXS
/-! ===== END ===== -/
/-! ===== BEGIN methods with a table of their own: called by a name, returning or throwing ===== -/
section VXH
/-! vx_backW, vx_callVX, vx_callSX, vx_callVW, vx_runVW, vx_runVX, vx_runSX, vx_ofWH follow the same proofs as their sisters above (Free/Laws.lean, Shelf42/LK1.lean); vx_outP calls Shelf42/NT130.lean (outThrough). -/
section
variable {l : Launch} {R : Room} {p : Program} {e : Env} {below : List Frame} {s : State} {sargs : Array Value} {y : MethodName} {len W9 : Nat}
theorem vx_backW {ws : List Cond} {rm : Room} {Pc : Array Value → State → Prop} {Qc : Array Value → State → Outcome → State → Prop} {XC : String → State → State → Prop} {mc ms : Nat} {free : Addr → Prop} {bytes : ByteArray} {maxL : Nat} {ret : Option FieldType} {hh : List (Nat × Nat × Nat × Nat)}
    (hM : vx_Met l y ws rm Pc Qc XC mc ms free) (hblind : FrameBlind Pc) (hrc : rm.cells = mc) (hrs : rm.slots = ms)
    (hframes : rm.frames + 1 ≤ R.frames) (hlocals : W9 + (maxL + 11) + rm.locals ≤ R.locals)
    (hws : ∀ w ∈ ws, ∀ a' U, s.WarmedH U.vm → w.before a' U = true) (hcode : Cond.codeWith y bytes maxL ret hh ∈ ws) (hinit : ∀ a' U, s.WarmedH U.vm → (Cond.initialized y.cls).before a' U = true) :
    vx_Back l R p e below s sargs y len W9 (PreOf R mc ms Pc) (PostOf Qc mc ms free) (vx_Post XC mc ms free) := by
  intro m meth c A g ig mk a X hg hsize hdg hW hn hp
  have h1 : (headSpec ws rm).pre.before a A.U = true := atoms_intro fun w hw => hws w hw _ _ X.warmed
  have h2 : (Cond.codeWith y bytes maxL ret hh).before a A.U = true := hws _ hcode _ _ X.warmed
  have h3 : (Cond.initialized y.cls).before a A.U = true := hinit _ _ X.warmed
  have h4 : A.cells + (headSpec ws rm).room.cells ≤ R.cells := by rw [show (headSpec ws rm).room.cells = mc from hrc]; exact hp.1
  have h5 : A.slots + (headSpec ws rm).room.slots ≤ R.slots := by rw [show (headSpec ws rm).room.slots = ms from hrs]; exact hp.2.1
  have hPc : Pc a (A.U.calling g mk a) := hblind _ _ _ _ hp.2.2
  obtain ⟨U, Ls, c0, s0⟩ := A
  dsimp only [Pt.U, Pt.locs, Pt.cells, Pt.slots] at h1 h2 h3 h4 h5 X hn hPc ⊢
  obtain ⟨m9, methY, cY, hn9, hmY, hcY, -, hlY, -⟩ := Cond.codeWith_spec h2
  cases Option.some.inj (hn9.symm.trans hn)
  obtain ⟨kY, hkY, -⟩ := className_of_methodNamed hn
  have hinitY : kY.init = .initialized := Cond.initialized_spec (findClass_of_methodNamed hn) hkY h3
  have h : At U g.method c below := by rw [hg]; exact X.here
  have hlocals9 : W9 + (maxL + 11) + (headSpec ws rm).room.locals ≤ R.locals := hlocals
  have happ : (headSpec ws rm).appliesLoose y e.platform (U.calling g mk a) = true :=
    Spec.appliesLoose_calling (g := g) h hdg hn hkY hinitY
      (X.room_calling (g := g) (R' := (headSpec ws rm).room) hsize hmY hcY hframes (by rw [hlY]; omega) h4 h5) h1
  obtain ⟨mid, hmid⟩ := h.above
  have hfr : (U.setTop g).frames = (.java g :: mid) ++ below := by rw [State.frames_setTop' g h.top, hmid]; rfl
  obtain ⟨o, s₂, hsteps, -, hend, hq⟩ := Steps.callFree hM p X.admits X.cas X.clock (acts := []) hfr happ hPc trivial
  have hq' : vx_Q Qc XC mc ms free a (U.calling g mk a) o s₂ := hq
  rw [State.frames_setTop' g h.top] at hend
  obtain ⟨g₀, hg0⟩ := Option.isSome_iff_exists.mp h.top
  obtain ⟨r, hr⟩ := State.topJava?_eq_some.mp hg0
  have hr' : (({ U with heap := s₂.heap, slotsUsed := s₂.slotsUsed } : State).setVm s₂.vm).frames = .java g₀ :: r := hr
  rcases hq' with ⟨hqc, L, hfe, hL⟩ | ⟨q, rfl, E, ce, L, hx, hce, hcv, hcl, hW₂, hsm, hL⟩
  · obtain ⟨⟨v, rfl⟩, hW₂, e2, q2, q3, q4, q5, q6⟩ := id hfe
    have e3 : s₂ = ({ (U.calling g mk a).setFrames s₂.frames with heap := s₂.heap, slotsUsed := s₂.slotsUsed } : State).setVm s₂.vm := by
      have : s₂ = ({ s₂ with vm := (U.calling g mk a).vm } : State).setVm s₂.vm := rfl
      rw [e2] at this
      exact this
    obtain ⟨c₂, i₂, len₂, hc₂, hd₂, hf₂⟩ := hend
    have hW' : U.WarmedH s₂.vm := hW₂
    have hcc : c₂ = c := by
      have h1 : s₂.code? g.method = U.code? g.method := by
        rw [State.code?_eq, State.code?_eq, hW'.alike.method?]
      exact Option.some.inj (hc₂.symm.trans (h1.trans h.code))
    subst hcc
    have hlen : len₂ = len := by rw [hdg] at hd₂; cases hd₂; rfl
    subst hlen
    have hs₂ : s₂ = (({ U with heap := s₂.heap, slotsUsed := s₂.slotsUsed } : State).setVm s₂.vm).setTop { g with pc := g.pc + len₂, stack := v.toList ++ g.stack } := by
      refine e3.trans ?_
      rw [hf₂, State.calling_eq h.top, State.setFrames_setFrames, State.setTop_of_frames _ hr', hr]
      rfl
    have hsame : U.sameButNew ({ U with heap := s₂.heap, slotsUsed := s₂.slotsUsed } : State) L mc ms := by
      refine ⟨?_, q2, q3, q4, q5, q6⟩
      obtain ⟨t, ht, -⟩ := State.frames_cons hr
      show ({ U with heap := s₂.heap, slotsUsed := s₂.slotsUsed } : State) = { U.setFrames U.frames with heap := s₂.heap, slotsUsed := s₂.slotsUsed }
      rw [State.setFrames_self ht]
    subst hg
    refine Or.inl ⟨v, ⟨(({ U with heap := s₂.heap, slotsUsed := s₂.slotsUsed } : State).setVm s₂.vm), Ls ++ L, c0 + mc, s0 + ms⟩,
      ⟨X.admits, X.cas, X.clock, X.frames, X.room, X.hears, X.method, X.code, (X.here.setHeapUsed s₂.heap s₂.slotsUsed).setVm hW'.alike, X.tail, State.WarmedH.trans X.warmed hW', X.limits, X.bytes, X.same.trans (hsame.setVm s.vm)⟩,
      ⟨g, mk, s₂, L, rfl, rfl, hqc, rfl, hL, rfl, rfl⟩, ?_⟩
    show Steps p.tables e below _ ((({ U with heap := s₂.heap, slotsUsed := s₂.slotsUsed } : State).setVm s₂.vm).setTop { g with pc := g.pc + len₂, stack := v.toList ++ g.stack })
    rw [← hs₂]
    exact hsteps
  · obtain ⟨e2, q2, q3, q4, q5, q6⟩ := id hsm
    have e3 : s₂ = ({ (U.calling g mk a).setFrames s₂.frames with heap := s₂.heap, slotsUsed := s₂.slotsUsed } : State).setVm s₂.vm := by
      have : s₂ = ({ s₂ with vm := (U.calling g mk a).vm } : State).setVm s₂.vm := rfl
      rw [e2] at this
      exact this
    have hf₂ : s₂.frames = .throwing q :: .java g :: U.frames.tail := hend
    have hW' : U.WarmedH s₂.vm := hW₂
    have hs₂ : s₂ = ((({ U with heap := s₂.heap, slotsUsed := s₂.slotsUsed } : State).setVm s₂.vm).setTop g).pushFrame (.throwing q) := by
      refine e3.trans ?_
      rw [hf₂, State.calling_eq h.top, State.setFrames_setFrames, State.pushFrame, State.frames_setTop _ hr', State.setTop_of_frames _ hr', State.setFrames_setFrames, hr]
      rfl
    have hsame : U.sameButNew ({ U with heap := s₂.heap, slotsUsed := s₂.slotsUsed } : State) L mc ms := by
      refine ⟨?_, q2, q3, q4, q5, q6⟩
      obtain ⟨t, ht, -⟩ := State.frames_cons hr
      show ({ U with heap := s₂.heap, slotsUsed := s₂.slotsUsed } : State) = { U.setFrames U.frames with heap := s₂.heap, slotsUsed := s₂.slotsUsed }
      rw [State.setFrames_self ht]
    subst hg
    refine Or.inr ⟨q, ⟨(({ U with heap := s₂.heap, slotsUsed := s₂.slotsUsed } : State).setVm s₂.vm), Ls ++ L, c0 + mc, s0 + ms⟩,
      ⟨X.admits, X.cas, X.clock, X.frames, X.room, X.hears, X.method, X.code, (X.here.setHeapUsed s₂.heap s₂.slotsUsed).setVm hW'.alike, X.tail, State.WarmedH.trans X.warmed hW', X.limits, X.bytes, X.same.trans (hsame.setVm s.vm)⟩,
      ⟨g, mk, s₂, L, E, ce, rfl, rfl, hx, hce, hcv, hcl, rfl, hL, rfl, rfl⟩, ?_⟩
    show Steps p.tables e below _ (((({ U with heap := s₂.heap, slotsUsed := s₂.slotsUsed } : State).setVm s₂.vm).setTop g).pushFrame (.throwing q))
    rw [← hs₂]
    exact hsteps
end
variable {p : Program} {l : Launch} {e : Env} {R : Room} {s : State} {m : MethodId} {args : Array Value} {below : List Frame} {meth : Method} {c : Code} {T : State} {H : Heap} {locs : List Loc} {cells slots : Nat}
theorem vx_callVX (X : Stand p l e R s m args below meth c T locs cells slots) (hexec : p.tables.exec = Jvm.exec) {own C : String} {index : Nat} {y : MethodName} {bytes : ByteArray} {maxL : Nat} {ret : Option FieldType} {hh : List (Nat × Nat × Nat × Nat)}
    (hown : s.vm.findClass own = some m.cls) (hlink : (Cond.methodLink own index y).before args s = true) (hinst : (Cond.instanceMethod y).before args s = true) (hsel : (Cond.selects C y y).before args s = true)
    (hcode : (Cond.codeWith y bytes maxL ret hh).before args s = true) (hy : y.cls ≠ "java/lang/invoke/MethodHandle" ∧ y.cls ≠ "java/lang/invoke/VarHandle")
    {W9 : Nat} {Pre : Pt → Array Value → Prop} {Post : Pt → Array Value → Option Value → Pt → Prop} {PostX : Pt → Array Value → Addr → Pt → Prop} (hK : vx_Back l R p e below s args y 3 W9 Pre Post PostX)
    {b : Addr} {cellB : Cell} (hcell : T.heap[b]? = some cellB) (hobj : cellB.vm.isStatics = false) (hcls : s.vm.findClass C = some cellB.cls)
    {g : JFrame} (hg : g.method = m) (hsize : g.locals.size = c.maxLocals) {argsL rest : List Value} (hlen : ∀ sig, parseMethodDescriptor y.desc = some sig → argsL.length = sig.parameters.length)
    (hstack : g.stack = argsL.reverse ++ .ref b :: rest) (hW : 2 * g.monitorRoom + (rest.map fun v => v.category).sum ≤ W9) (hdg : decode c.code g.pc = .ok (.invokevirtual index, 3))
    (hpre : ∀ vm₁, s.WarmedH vm₁ → Pre ⟨T.setVm vm₁, locs, cells, slots⟩ (Value.ref b :: argsL).toArray) :
    (∃ (v : Option Value) (vm₁ : Vm) (B : Pt), s.WarmedH vm₁ ∧ Stand p l e R s m args below meth c B.U B.locs B.cells B.slots ∧ Post ⟨T.setVm vm₁, locs, cells, slots⟩ (Value.ref b :: argsL).toArray v B ∧
      ∀ target, Steps p.tables e below (B.U.setTop { g with pc := g.pc + 3, stack := v.toList ++ rest }) target → Steps p.tables e below (T.setTop g) target) ∨
    (∃ (q : Addr) (vm₁ : Vm) (B : Pt), s.WarmedH vm₁ ∧ Stand p l e R s m args below meth c B.U B.locs B.cells B.slots ∧ PostX ⟨T.setVm vm₁, locs, cells, slots⟩ (Value.ref b :: argsL).toArray q B ∧
      Steps p.tables e below (T.setTop g) ((B.U.setTop { g with stack := rest }).pushFrame (.throwing q))) := by
  obtain ⟨mk, methM, hnamed, hmethM, hstM, habM⟩ := Cond.instanceMethod_spec hinst
  obtain ⟨m8, methM', cM, hn8, hmethM', -, -, -, -, -, -, hsigM⟩ := Cond.codeWith_spec hcode
  cases Option.some.inj (hn8.symm.trans hnamed)
  cases hmethM.symm.trans hmethM'
  obtain ⟨c2, r2, m2, q1, q2, q3, q4, kP, hkP, hkPi⟩ := Cond.selects_spec hsel
  cases hcls.symm.trans q1
  cases (State.methodFound?_of_named hnamed hy).symm.trans q2
  cases hnamed.symm.trans q3
  have hselP : selectMethod e.platform s.vm cellB.cls mk = .method mk := by rw [Launch.admits_selectMethod X.admits]; exact q4
  obtain ⟨vm₁, X₁, hstep₁⟩ := X.invokevirtual hexec hown hlink hnamed hmethM hstM hkP hkPi hy (a := b) (cell := cellB) hcell
    (fun z h => by rw [h] at hobj; cases hobj) hselP hmethM habM hkP hkPi (g := g) hg (argsL := argsL) (rest := rest) (hlen _ hsigM) hstack hdg
  rcases hK m meth c ⟨T.setVm vm₁, locs, cells, slots⟩ { g with stack := rest } (.invokevirtual index) mk (Value.ref b :: argsL).toArray X₁ hg hsize hdg hW (X₁.named hnamed) (hpre vm₁ X₁.warmed) with ⟨v, B, X', hpost, hsteps⟩ | ⟨q, B, X', hpost, hsteps⟩
  · exact Or.inl ⟨v, vm₁, B, X₁.warmed, X', hpost, fun target h => hstep₁ _ fun acts => by rw [doInvoke_state]; exact hsteps.trans h⟩
  · exact Or.inr ⟨q, vm₁, B, X₁.warmed, X', hpost, hstep₁ _ fun acts => by rw [doInvoke_state]; exact hsteps⟩
theorem vx_callSX (X : Stand p l e R s m args below meth c T locs cells slots) (hexec : p.tables.exec = Jvm.exec) {own : String} {index : Nat} {y : MethodName} {bytes : ByteArray} {maxL : Nat} {ret : Option FieldType} {hh : List (Nat × Nat × Nat × Nat)}
    (hown : s.vm.findClass own = some m.cls) (hlink : (Cond.methodLink own index y).before args s = true) (hstat : (Cond.static y).before args s = true) (hinit : (Cond.initialized y.cls).before args s = true)
    (hcode : (Cond.codeWith y bytes maxL ret hh).before args s = true) (hy : y.cls ≠ "java/lang/invoke/MethodHandle" ∧ y.cls ≠ "java/lang/invoke/VarHandle")
    {W9 : Nat} {Pre : Pt → Array Value → Prop} {Post : Pt → Array Value → Option Value → Pt → Prop} {PostX : Pt → Array Value → Addr → Pt → Prop} (hK : vx_Back l R p e below s args y 3 W9 Pre Post PostX)
    {g : JFrame} (hg : g.method = m) (hsize : g.locals.size = c.maxLocals) {argsL rest : List Value} (hlen : ∀ sig, parseMethodDescriptor y.desc = some sig → argsL.length = sig.parameters.length)
    (hstack : g.stack = argsL.reverse ++ rest) (hW : 2 * g.monitorRoom + (rest.map fun v => v.category).sum ≤ W9) (hdg : decode c.code g.pc = .ok (.invokestatic index, 3))
    (hpre : ∀ vm₁, s.WarmedH vm₁ → Pre ⟨T.setVm vm₁, locs, cells, slots⟩ argsL.toArray) :
    (∃ (v : Option Value) (vm₁ : Vm) (B : Pt), s.WarmedH vm₁ ∧ Stand p l e R s m args below meth c B.U B.locs B.cells B.slots ∧ Post ⟨T.setVm vm₁, locs, cells, slots⟩ argsL.toArray v B ∧
      ∀ target, Steps p.tables e below (B.U.setTop { g with pc := g.pc + 3, stack := v.toList ++ rest }) target → Steps p.tables e below (T.setTop g) target) ∨
    (∃ (q : Addr) (vm₁ : Vm) (B : Pt), s.WarmedH vm₁ ∧ Stand p l e R s m args below meth c B.U B.locs B.cells B.slots ∧ PostX ⟨T.setVm vm₁, locs, cells, slots⟩ argsL.toArray q B ∧
      Steps p.tables e below (T.setTop g) ((B.U.setTop { g with stack := rest }).pushFrame (.throwing q))) := by
  obtain ⟨mk, methM, cM, hnamed, hmethM, -, -, -, -, -, -, hsigM⟩ := Cond.codeWith_spec hcode
  have hstatic : methM.isStatic = true := Cond.static_spec hnamed hmethM hstat
  obtain ⟨kP, hkP, -⟩ := className_of_methodNamed hnamed
  have hinitP : kP.init = .initialized := Cond.initialized_spec (findClass_of_methodNamed hnamed) hkP hinit
  obtain ⟨vm₁, X₁, hstep₁⟩ := X.invokestatic hexec hown hlink hnamed hmethM hstatic hkP hinitP hy (g := g) hg (argsL := argsL) (rest := rest) (hlen _ hsigM) hstack hdg
  rcases hK m meth c ⟨T.setVm vm₁, locs, cells, slots⟩ { g with stack := rest } (.invokestatic index) mk argsL.toArray X₁ hg hsize hdg hW (X₁.named hnamed) (hpre vm₁ X₁.warmed) with ⟨v, B, X', hpost, hsteps⟩ | ⟨q, B, X', hpost, hsteps⟩
  · exact Or.inl ⟨v, vm₁, B, X₁.warmed, X', hpost, fun target h => hstep₁ _ fun acts => by rw [doInvoke_state]; exact hsteps.trans h⟩
  · exact Or.inr ⟨q, vm₁, B, X₁.warmed, X', hpost, hstep₁ _ fun acts => by rw [doInvoke_state]; exact hsteps⟩
theorem vx_callVW (X : Stand p l e R s m args below meth c T locs cells slots) (hexec : p.tables.exec = Jvm.exec) {own C : String} {index : Nat} {y : MethodName} {bytes : ByteArray} {maxL : Nat} {ret : Option FieldType} {hh : List (Nat × Nat × Nat × Nat)}
    (hown : s.vm.findClass own = some m.cls) (hlink : (Cond.methodLink own index y).before args s = true) (hinst : (Cond.instanceMethod y).before args s = true) (hsel : (Cond.selects C y y).before args s = true)
    (hcode : (Cond.codeWith y bytes maxL ret hh).before args s = true) (hy : y.cls ≠ "java/lang/invoke/MethodHandle" ∧ y.cls ≠ "java/lang/invoke/VarHandle")
    {W9 : Nat} {Pre : Pt → Array Value → Prop} {Post : Pt → Array Value → Option Value → Pt → Prop} (hK : Back l R p e below s args y 3 W9 Pre Post)
    {b : Addr} {cellB : Cell} (hcell : T.heap[b]? = some cellB) (hobj : cellB.vm.isStatics = false) (hcls : s.vm.findClass C = some cellB.cls)
    {g : JFrame} (hg : g.method = m) (hsize : g.locals.size = c.maxLocals) {argsL rest : List Value} (hlen : ∀ sig, parseMethodDescriptor y.desc = some sig → argsL.length = sig.parameters.length)
    (hstack : g.stack = argsL.reverse ++ .ref b :: rest) (hW : 2 * g.monitorRoom + (rest.map fun v => v.category).sum ≤ W9) (hdg : decode c.code g.pc = .ok (.invokevirtual index, 3))
    (hpre : ∀ vm₁, s.WarmedH vm₁ → Pre ⟨T.setVm vm₁, locs, cells, slots⟩ (Value.ref b :: argsL).toArray) :
    ∃ (v : Option Value) (vm₁ : Vm) (B : Pt), s.WarmedH vm₁ ∧ Stand p l e R s m args below meth c B.U B.locs B.cells B.slots ∧ Post ⟨T.setVm vm₁, locs, cells, slots⟩ (Value.ref b :: argsL).toArray v B ∧
      ∀ target, Steps p.tables e below (B.U.setTop { g with pc := g.pc + 3, stack := v.toList ++ rest }) target → Steps p.tables e below (T.setTop g) target := by
  obtain ⟨mk, methM, hnamed, hmethM, hstM, habM⟩ := Cond.instanceMethod_spec hinst
  obtain ⟨m8, methM', cM, hn8, hmethM', -, -, -, -, -, -, hsigM⟩ := Cond.codeWith_spec hcode
  cases Option.some.inj (hn8.symm.trans hnamed)
  cases hmethM.symm.trans hmethM'
  obtain ⟨c2, r2, m2, q1, q2, q3, q4, kP, hkP, hkPi⟩ := Cond.selects_spec hsel
  cases hcls.symm.trans q1
  cases (State.methodFound?_of_named hnamed hy).symm.trans q2
  cases hnamed.symm.trans q3
  have hselP : selectMethod e.platform s.vm cellB.cls mk = .method mk := by rw [Launch.admits_selectMethod X.admits]; exact q4
  obtain ⟨vm₁, X₁, hstep₁⟩ := X.invokevirtual hexec hown hlink hnamed hmethM hstM hkP hkPi hy (a := b) (cell := cellB) hcell
    (fun z h => by rw [h] at hobj; cases hobj) hselP hmethM habM hkP hkPi (g := g) hg (argsL := argsL) (rest := rest) (hlen _ hsigM) hstack hdg
  obtain ⟨v, B, X', hpost, hsteps⟩ := hK m meth c ⟨T.setVm vm₁, locs, cells, slots⟩ { g with stack := rest } (.invokevirtual index) mk (Value.ref b :: argsL).toArray X₁ hg hsize hdg hW (X₁.named hnamed) (hpre vm₁ X₁.warmed)
  exact ⟨v, vm₁, B, X₁.warmed, X', hpost, fun target h => hstep₁ _ fun acts => by rw [doInvoke_state]; exact hsteps.trans h⟩
abbrev vx_CVW (R : Room) (s : State) (args : Array Value) (own C : String) (index : Nat) (y : MethodName) (bytes : ByteArray) (maxL : Nat) (ret : Option FieldType) (hh : List (Nat × Nat × Nat × Nat)) (ws : List Cond) (rm : Room) (mc ms n : Nat) : Prop :=
  (rm.cells = mc ∧ rm.slots = ms ∧ rm.frames + 1 ≤ R.frames ∧ 8 + (maxL + 11) + rm.locals ≤ R.locals ∧ (∀ w ∈ ws, ∀ (a' : Array Value) (U : State), s.WarmedH U.vm → w.before a' U = true) ∧ Cond.codeWith y bytes maxL ret hh ∈ ws) ∧
  (Cond.codeWith y bytes maxL ret hh).before args s = true ∧ (Cond.initialized y.cls).before args s = true ∧ (y.cls ≠ "java/lang/invoke/MethodHandle" ∧ y.cls ≠ "java/lang/invoke/VarHandle") ∧
  (∀ sig, parseMethodDescriptor y.desc = some sig → n = sig.parameters.length) ∧ (Cond.methodLink own index y).before args s = true ∧ (Cond.instanceMethod y).before args s = true ∧ (Cond.selects C y y).before args s = true
theorem vx_cwVW {own C : String} {index maxL mc ms : Nat} {y : MethodName} {bytes : ByteArray} {ret : Option FieldType} {hh : List (Nat × Nat × Nat × Nat)} {Ts ws ws' : List Cond} {rm : Room} (n : Nat) (ht : ∀ w ∈ Ts, w.before args s = true) (hT : GoodIn Ts (wsV own index C y ws)) (hw : ws = Cond.codeWith y bytes maxL ret hh :: ws') (hrc : rm.cells = mc) (hrs : rm.slots = ms)
    (hd : y.cls = C ∧ y.cls ≠ "java/lang/invoke/MethodHandle" ∧ y.cls ≠ "java/lang/invoke/VarHandle" ∧ (parseMethodDescriptor y.desc).map (fun d => d.parameters.length) = some n) (hR : rm.frames + 1 ≤ R.frames ∧ 8 + (maxL + 11) + rm.locals ≤ R.locals) :
    vx_CVW R s args own C index y bytes maxL ret hh ws rm mc ms n := by
  obtain ⟨hC, hd⟩ := hd
  subst hC
  have ok : ∀ w ∈ wsV own index y.cls y ws, w.before args s = true := fun w h => ht w (hT w h).1
  have hG : GoodIn Ts ws := fun w h => hT w (by unfold wsV; exact List.mem_append_right _ h)
  have hc : Cond.codeWith y bytes maxL ret hh ∈ ws := by rw [hw]; exact List.mem_cons_self
  refine ⟨⟨hrc, hrs, hR.1, hR.2, pay_in ht hG, hc⟩, ht _ (hG _ hc).1, ok _ (by simp [wsV]), ⟨hd.1, hd.2.1⟩, fun sig h => ?_, ok _ (by simp [wsV]), ok _ (by simp [wsV]), ok _ (by simp [wsV])⟩
  have h2 := hd.2.2
  rw [h] at h2
  exact (Option.some.inj h2).symm
theorem vx_runVW {y : MethodName} {bytes cc : ByteArray} {maxL nL mc ms n index : Nat} {ret : Option FieldType} {hh : List (Nat × Nat × Nat × Nat)} {ws : List Cond} {rm : Room} {Pc : Array Value → State → Prop} {Qc : Array Value → State → Outcome → State → Prop} {free : Addr → Prop} {Ts : List Cond} {own C : String} {b : Addr} {As rest : List Value} {g : JFrame}
    (S : CallFix p m c cc nL s args Ts own) (hM : Met l y ws rm Pc Qc mc ms free) (cw : vx_CVW R s args own C index y bytes maxL ret hh ws rm mc ms n) (hp : PreV s H C b Pc As)
    (hg : g.method = m) (hn : As.length = n) (hsize : g.locals.size = nL) (hstack : g.stack = As.reverse ++ .ref b :: rest) (hW : 2 * g.monitorRoom + (rest.map fun v => v.category).sum ≤ 8) (hdg : decode cc g.pc = .ok (.invokevirtual index, 3)) (hf : cells + mc ≤ R.cells ∧ slots + ms ≤ R.slots) :
    va_Run p l e R s m args below meth c H locs cells slots mc ms g rest (Qc (Value.ref b :: As).toArray) free := by
  obtain ⟨⟨hrc, hrs, hfr, hlo, hws, hcw⟩, hcode, hini, hy, hlen, hl, hin, hse⟩ := cw
  have hK : Back l R p e below s args y 3 8 (PreOf R mc ms Pc) (PostOf Qc mc ms free) := va_backW (hh := hh) (bytes := bytes) (maxL := maxL) (ret := ret) hM hp.1 hrc hrs hfr hlo hws hcw (fun a' U hW => word_at hW (Or.inl (by first | rfl | simp [Cond.onTables, Cond.keeps, Cond.steady])) hini)
  obtain ⟨hx, hb, hml, ho, -⟩ := S
  obtain ⟨-, ⟨cellB, hcB, hoB, hclB⟩, hPc⟩ := hp
  intro T hT X
  obtain ⟨v, vm₁, ⟨U', l2, c2, s2⟩, hW₁, X', ⟨g', mk, t, L, e1, e2, hq, h1, hL, h2, h3⟩, st⟩ := vx_callVW X hx (C := C) (hh := hh) (bytes := bytes) (maxL := maxL) (ret := ret) ho hl hin hse hcode hy hK (by rw [hT]; exact hcB) hoB hclB hg (hsize.trans hml.symm) (argsL := As) (rest := rest) (fun sig h => hn.trans (hlen sig h)) hstack hW (by rw [hb]; exact hdg)
    (fun vm₁ hW₁ => ⟨hf.1, hf.2, hPc (T.setVm vm₁) hT hW₁⟩)
  dsimp only [Pt.U, Pt.locs, Pt.cells, Pt.slots] at X' e1 e2 h1 h2 h3 st
  subst h1; subst h2; subst h3
  exact ⟨v, (T.setVm vm₁).calling g' mk (Value.ref b :: As).toArray, t, U', L, hT, X', hL, e1, e2, hq, st⟩
section
variable {y : MethodName} {bytes cc : ByteArray} {maxL nL mc ms n index : Nat} {ret : Option FieldType} {ws : List Cond} {rm : Room} {Pc : Array Value → State → Prop} {Qc : Array Value → State → Outcome → State → Prop} {XC : String → State → State → Prop} {free : Addr → Prop} {Ts : List Cond} {own C : String} {b : Addr} {As rest : List Value} {g : JFrame}
theorem vx_runVX {hh : List (Nat × Nat × Nat × Nat)} (S : CallFix p m c cc nL s args Ts own) (hM : vx_Met l y ws rm Pc Qc XC mc ms free) (cw : vx_CVW R s args own C index y bytes maxL ret hh ws rm mc ms n) (hp : PreV s H C b Pc As)
    (hg : g.method = m) (hn : As.length = n) (hsize : g.locals.size = nL) (hstack : g.stack = As.reverse ++ .ref b :: rest) (hW : 2 * g.monitorRoom + (rest.map fun v => v.category).sum ≤ 8) (hdg : decode cc g.pc = .ok (.invokevirtual index, 3)) (hf : cells + mc ≤ R.cells ∧ slots + ms ≤ R.slots) :
    vx_Run p l e R s m args below meth c H locs cells slots mc ms g rest (Qc (Value.ref b :: As).toArray) XC free := by
  obtain ⟨⟨hrc, hrs, hfr, hlo, hws, hcw⟩, hcode, hini, hy, hlen, hl, hin, hse⟩ := cw
  have hK : vx_Back l R p e below s args y 3 8 (PreOf R mc ms Pc) (PostOf Qc mc ms free) (vx_Post XC mc ms free) := vx_backW (hh := hh) (bytes := bytes) (maxL := maxL) (ret := ret) hM hp.1 hrc hrs hfr hlo hws hcw (fun a' U hW => word_at hW (Or.inl (by first | rfl | simp [Cond.onTables, Cond.keeps, Cond.steady])) hini)
  obtain ⟨hx, hb, hml, ho, -⟩ := S
  obtain ⟨-, ⟨cellB, hcB, hoB, hclB⟩, hPc⟩ := hp
  intro T hT X
  rcases vx_callVX X hx (C := C) (hh := hh) (bytes := bytes) (maxL := maxL) (ret := ret) ho hl hin hse hcode hy hK (by rw [hT]; exact hcB) hoB hclB hg (hsize.trans hml.symm) (argsL := As) (rest := rest) (fun sig h => hn.trans (hlen sig h)) hstack hW (by rw [hb]; exact hdg)
    (fun vm₁ hW₁ => ⟨hf.1, hf.2, hPc (T.setVm vm₁) hT hW₁⟩) with ⟨v, vm₁, ⟨U', l2, c2, s2⟩, hW₁, X', ⟨g', mk, t, L, e1, e2, hq, h1, hL, h2, h3⟩, st⟩ | ⟨q, vm₁, ⟨U', l2, c2, s2⟩, hW₁, X', ⟨g', mk, t, L, E, ce, e1, e2, hq, hce, hcv, hcl, h1, hL, h2, h3⟩, st⟩
  · dsimp only [Pt.U, Pt.locs, Pt.cells, Pt.slots] at X' e1 e2 h1 h2 h3 st
    subst h1; subst h2; subst h3
    exact Or.inl ⟨v, (T.setVm vm₁).calling g' mk (Value.ref b :: As).toArray, t, U', L, hT, X', hL, e1, e2, hq, st⟩
  · dsimp only [Pt.U, Pt.locs, Pt.cells, Pt.slots] at X' e1 e2 h1 h2 h3 st hcl
    subst h1; subst h2; subst h3
    exact Or.inr ⟨q, (T.setVm vm₁).calling g' mk (Value.ref b :: As).toArray, t, U', L, E, ce, hT, X', hL, e1, e2, hq, hce, hcv, vx_cls hW₁ hcl, st⟩
theorem vx_runSX {hh : List (Nat × Nat × Nat × Nat)} (S : CallFix p m c cc nL s args Ts own) (hM : vx_Met l y ws rm Pc Qc XC mc ms free) (cw : vx_CSW R s args own index y bytes maxL ret hh ws rm mc ms n) (hp : PreS s H Pc As)
    (hg : g.method = m) (hn : As.length = n) (hsize : g.locals.size = nL) (hstack : g.stack = As.reverse ++ rest) (hW : 2 * g.monitorRoom + (rest.map fun v => v.category).sum ≤ 8) (hdg : decode cc g.pc = .ok (.invokestatic index, 3)) (hf : cells + mc ≤ R.cells ∧ slots + ms ≤ R.slots) :
    vx_Run p l e R s m args below meth c H locs cells slots mc ms g rest (Qc As.toArray) XC free := by
  obtain ⟨⟨hrc, hrs, hfr, hlo, hws, hcw⟩, hcode, hini, hy, hlen, hl, hstt⟩ := cw
  have hK : vx_Back l R p e below s args y 3 8 (PreOf R mc ms Pc) (PostOf Qc mc ms free) (vx_Post XC mc ms free) := vx_backW (hh := hh) (bytes := bytes) (maxL := maxL) (ret := ret) hM hp.1 hrc hrs hfr hlo hws hcw (fun a' U hW => word_at hW (Or.inl (by first | rfl | simp [Cond.onTables, Cond.keeps, Cond.steady])) hini)
  obtain ⟨hx, hb, hml, ho, -⟩ := S
  intro T hT X
  rcases vx_callSX X hx (hh := hh) (bytes := bytes) (maxL := maxL) (ret := ret) ho hl hstt hini hcode hy hK hg (hsize.trans hml.symm) (argsL := As) (rest := rest) (fun sig h => hn.trans (hlen sig h)) hstack hW (by rw [hb]; exact hdg)
    (fun vm₁ hW₁ => ⟨hf.1, hf.2, hp.2 (T.setVm vm₁) hT hW₁⟩) with ⟨v, vm₁, ⟨U', l2, c2, s2⟩, hW₁, X', ⟨g', mk, t, L, e1, e2, hq, h1, hL, h2, h3⟩, st⟩ | ⟨q, vm₁, ⟨U', l2, c2, s2⟩, hW₁, X', ⟨g', mk, t, L, E, ce, e1, e2, hq, hce, hcv, hcl, h1, hL, h2, h3⟩, st⟩
  · dsimp only [Pt.U, Pt.locs, Pt.cells, Pt.slots] at X' e1 e2 h1 h2 h3 st
    subst h1; subst h2; subst h3
    exact Or.inl ⟨v, (T.setVm vm₁).calling g' mk As.toArray, t, U', L, hT, X', hL, e1, e2, hq, st⟩
  · dsimp only [Pt.U, Pt.locs, Pt.cells, Pt.slots] at X' e1 e2 h1 h2 h3 st hcl
    subst h1; subst h2; subst h3
    exact Or.inr ⟨q, (T.setVm vm₁).calling g' mk As.toArray, t, U', L, E, ce, hT, X', hL, e1, e2, hq, hce, hcv, vx_cls hW₁ hcl, st⟩
end
end VXH
theorem vx_ofWH {l : Launch} {y : MethodName} {ws ws' : List Cond} {rm : Room} {Pc : Array Value → State → Prop} {Qc : Array Value → State → Outcome → State → Prop} {XC : String → State → State → Prop} {mc ms : Nat} {free : Addr → Prop} {cc : ByteArray} {maxL : Nat} {ret : Option FieldType} {hh : List (Nat × Nat × Nat × Nat)}
    (hy : plainName y.cls = true) (hw : ws = Cond.codeWith y cc maxL ret hh :: ws')
    (body : ∀ p e s m args below meth c s₁, BodyLoose p l y (headSpec ws rm) cc maxL ret e s m args below meth c s₁ → c.maxLocals = maxL → Pc args s →
      W p l e (headSpec ws rm).room s m args below meth c s.heap [] 0 0 (vx_MQ below Qc XC args s mc ms free) (entryFrame m args maxL)) : vx_Met l y ws rm Pc Qc XC mc ms free := by
  refine MetFree.of_bodyS (code := cc) (maxLocals := maxL) (ret := ret) hy ?_ ?_
  · intro args s m h hn
    obtain ⟨m9, meth, c, hn9, h1, h2, h3, h4, -, h5, h6, -⟩ := Cond.codeWith_spec (atoms_spec (ws := ws) h _ (by rw [hw]; exact List.mem_cons_self))
    cases hn.symm.trans hn9
    exact ⟨meth, c, h1, h2, h3, h4, h5, h6⟩
  · intro p e s m args below meth c s₁ B hml hP _
    have hh0 : s₁.heap = s.heap := by rw [B.state]; rfl
    obtain ⟨t, a1, o, b1, b2, b3⟩ := body p e s m args below meth c s₁ B hml hP s₁ hh0 (Stand.of_body B)
    exact ⟨t, o, a1, b1, b2, b3⟩
/-! ===== END ===== -/

/-! ===== BEGIN printed: names, fields, word lists, decode rows ===== -/
def RX0 : String := "TidegateBourse"
def TX0 : u_T := fun k => match k with
  | 0 => ("TidegateBourse", "levels", "[I", true)
  | 1 => ("TidegateBourse", "prices", "[I", true)
  | 2 => ("TidegateBourse", "gates", "[I", true)
  | 3 => ("TidegateBourse", "wears", "[I", true)
  | 4 => ("TidegateBourse", "repairEnds", "[I", true)
  | 5 => ("TidegateBourse", "notes", "[I", true)
  | 6 => ("TidegateBourse", "madeUnits", "[I", true)
  | 7 => ("TidegateBourse", "soldUnits", "[I", true)
  | 8 => ("TidegateBourse", "windNow", "I", false)
  | 9 => ("TidegateBourse", "turbines", "I", false)
  | 10 => ("TidegateBourse", "fishTold", "I", false)
  | 11 => ("TidegateBourse", "fishLimit", "I", false)
  | 12 => ("TidegateBourse", "closedEnd", "I", false)
  | 13 => ("TidegateBourse", "nextHour", "I", false)
  | _ => ("TidegateBourse", "balance", "F", false)
def tyX0 : Nat → FieldType := fun k => match k with
  | 0 => .array .int
  | 1 => .array .int
  | 2 => .array .int
  | 3 => .array .int
  | 4 => .array .int
  | 5 => .array .int
  | 6 => .array .int
  | 7 => .array .int
  | 8 => .int
  | 9 => .int
  | 10 => .int
  | 11 => .int
  | 12 => .int
  | 13 => .int
  | _ => .float
abbrev wsX00 : List Cond := u_ws RX0 TX0 15
theorem nmX0 : ∀ a, a < 15 → ∀ b, b < 15 → a ≠ b → (TX0 a).2.1 ≠ (TX0 b).2.1 := by decide +kernel
theorem tyX0_ok : ∀ k, k < 15 → parseFieldDescriptor (TX0 k).2.2.1 = some (tyX0 k) := by decide +kernel
abbrev cX0_init : ByteArray := prog_1_method_1_code
def yX0_init : MethodName := ⟨RX0, "<init>", "()V"⟩
abbrev cX0_tide : ByteArray := prog_1_method_2_code
def yX0_tide : MethodName := ⟨RX0, "tide", "(II)I"⟩
abbrev cX0_price : ByteArray := prog_1_method_3_code
def yX0_price : MethodName := ⟨RX0, "price", "(II)I"⟩
abbrev cX0_wind : ByteArray := prog_1_method_4_code
def yX0_wind : MethodName := ⟨RX0, "wind", "(I)I"⟩
abbrev cX0_turbine : ByteArray := prog_1_method_5_code
def yX0_turbine : MethodName := ⟨RX0, "turbine", "()I"⟩
abbrev cX0_gate : ByteArray := prog_1_method_6_code
def yX0_gate : MethodName := ⟨RX0, "gate", "(II)I"⟩
abbrev cX0_repair : ByteArray := prog_1_method_7_code
def yX0_repair : MethodName := ⟨RX0, "repair", "(I)I"⟩
abbrev cX0_run : ByteArray := prog_1_method_8_code
def yX0_run : MethodName := ⟨RX0, "run", "(I)Z"⟩
abbrev cX0_limit : ByteArray := prog_1_method_9_code
def yX0_limit : MethodName := ⟨RX0, "limit", "(I)I"⟩
abbrev cX0_sell : ByteArray := prog_1_method_10_code
def yX0_sell : MethodName := ⟨RX0, "sell", "(III)I"⟩
abbrev cX0_pass : ByteArray := prog_1_method_11_code
def yX0_pass : MethodName := ⟨RX0, "pass", "(I)I"⟩
abbrev cX0_now : ByteArray := prog_1_method_12_code
def yX0_now : MethodName := ⟨RX0, "now", "()I"⟩
abbrev cX0_made : ByteArray := prog_1_method_13_code
def yX0_made : MethodName := ⟨RX0, "made", "(I)I"⟩
abbrev cX0_madeAnew : ByteArray := prog_1_method_14_code
def yX0_madeAnew : MethodName := ⟨RX0, "madeAnew", "(I)I"⟩
abbrev cX0_sold : ByteArray := prog_1_method_15_code
def yX0_sold : MethodName := ⟨RX0, "sold", "(I)I"⟩
abbrev cX0_bought : ByteArray := prog_1_method_16_code
def yX0_bought : MethodName := ⟨RX0, "bought", "(I)I"⟩
abbrev cX0_head : ByteArray := prog_1_method_17_code
def yX0_head : MethodName := ⟨RX0, "head", "(I)I"⟩
abbrev cX0_about : ByteArray := prog_1_method_18_code
def yX0_about : MethodName := ⟨RX0, "about", "(II)I"⟩
abbrev cX0_closed : ByteArray := prog_1_method_19_code
def yX0_closed : MethodName := ⟨RX0, "closed", "()I"⟩
abbrev cX0_money : ByteArray := prog_1_method_20_code
def yX0_money : MethodName := ⟨RX0, "money", "()I"⟩
abbrev cX0_goBy : ByteArray := prog_1_method_21_code
def yX0_goBy : MethodName := ⟨RX0, "goBy", "(I)V"⟩
abbrev cX0_noteFor : ByteArray := prog_1_method_22_code
def yX0_noteFor : MethodName := ⟨RX0, "noteFor", "(I)I"⟩
abbrev cX0_makeUnits : ByteArray := prog_1_method_23_code
def yX0_makeUnits : MethodName := ⟨RX0, "makeUnits", "(II)I"⟩
abbrev cX0_settle : ByteArray := prog_1_method_24_code
def yX0_settle : MethodName := ⟨RX0, "settle", "(I)V"⟩
abbrev cX0_worth : ByteArray := prog_1_method_25_code
def yX0_worth : MethodName := ⟨RX0, "worth", "(II)F"⟩
abbrev cX0_works : ByteArray := prog_1_method_26_code
def yX0_works : MethodName := ⟨RX0, "works", "(IIII)Z"⟩
abbrev cX0_unitsOf : ByteArray := prog_1_method_27_code
def yX0_unitsOf : MethodName := ⟨RX0, "unitsOf", "(III)I"⟩
abbrev cX0_wearAfter : ByteArray := prog_1_method_28_code
def yX0_wearAfter : MethodName := ⟨RX0, "wearAfter", "(III)I"⟩
abbrev cX0_unitsFromNotes : ByteArray := prog_1_method_29_code
def yX0_unitsFromNotes : MethodName := ⟨RX0, "unitsFromNotes", "(II)I"⟩
abbrev cX0_notedHead : ByteArray := prog_1_method_30_code
def yX0_notedHead : MethodName := ⟨RX0, "notedHead", "(I)I"⟩
abbrev cX0_notedGate : ByteArray := prog_1_method_31_code
def yX0_notedGate : MethodName := ⟨RX0, "notedGate", "(II)I"⟩
abbrev cX0_notedRepair : ByteArray := prog_1_method_32_code
def yX0_notedRepair : MethodName := ⟨RX0, "notedRepair", "(II)Z"⟩
abbrev cX0_notedRun : ByteArray := prog_1_method_33_code
def yX0_notedRun : MethodName := ⟨RX0, "notedRun", "(I)Z"⟩
abbrev cX0_requireIndex : ByteArray := prog_1_method_34_code
def yX0_requireIndex : MethodName := ⟨RX0, "requireIndex", "(III)V"⟩
abbrev cX0_requireRange : ByteArray := prog_1_method_35_code
def yX0_requireRange : MethodName := ⟨RX0, "requireRange", "(III)V"⟩
abbrev cX0_bitsOf : ByteArray := prog_1_method_36_code
def yX0_bitsOf : MethodName := ⟨RX0, "bitsOf", "(F)I"⟩
def RX1 : String := "TidegateBourseModel"
def TX1 : u_T := fun k => match k with
  | _ => ("", "", "", false)
def tyX1 : Nat → FieldType := fun k => match k with
  | _ => .int
abbrev wsX10 : List Cond := u_ws RX1 TX1 0
theorem nmX1 : ∀ a, a < 0 → ∀ b, b < 0 → a ≠ b → (TX1 a).2.1 ≠ (TX1 b).2.1 := by decide +kernel
theorem tyX1_ok : ∀ k, k < 0 → parseFieldDescriptor (TX1 k).2.2.1 = some (tyX1 k) := by decide +kernel
def RJ9 : String := "java/lang/Math"
def TJ9 : u_T := fun k => match k with
  | _ => ("", "", "", false)
def tyJ9 : Nat → FieldType := fun k => match k with
  | _ => .int
abbrev wsJ90 : List Cond := u_ws RJ9 TJ9 0
theorem nmJ9 : ∀ a, a < 0 → ∀ b, b < 0 → a ≠ b → (TJ9 a).2.1 ≠ (TJ9 b).2.1 := by decide +kernel
theorem tyJ9_ok : ∀ k, k < 0 → parseFieldDescriptor (TJ9 k).2.2.1 = some (tyJ9 k) := by decide +kernel
abbrev cJ9_abs_0f7a4 : ByteArray := prog_8_method_59_code
def yJ9_abs_0f7a4 : MethodName := ⟨RJ9, "abs", "(I)I"⟩
abbrev cJ9_max_7cf53 : ByteArray := prog_8_method_65_code
def yJ9_max_7cf53 : MethodName := ⟨RJ9, "max", "(II)I"⟩
abbrev cJ9_min_7cf53 : ByteArray := prog_8_method_69_code
def yJ9_min_7cf53 : MethodName := ⟨RJ9, "min", "(II)I"⟩
def RJ0 : String := "java/lang/String"
def TJ0 : u_T := fun k => match k with
  | _ => ("", "", "", false)
def tyJ0 : Nat → FieldType := fun k => match k with
  | _ => .int
abbrev wsJ00 : List Cond := u_ws RJ0 TJ0 0
theorem nmJ0 : ∀ a, a < 0 → ∀ b, b < 0 → a ≠ b → (TJ0 a).2.1 ≠ (TJ0 b).2.1 := by decide +kernel
theorem tyJ0_ok : ∀ k, k < 0 → parseFieldDescriptor (TJ0 k).2.2.1 = some (tyJ0 k) := by decide +kernel
def RL : String := "TidegateBourseLaw"
abbrev cL_cell : ByteArray := method_2_code
def yL_cell : MethodName := ⟨RL, "cell", "([II)I"⟩
abbrev cL_low : ByteArray := method_3_code
def yL_low : MethodName := ⟨RL, "low", "(II)I"⟩
abbrev cL_bits : ByteArray := method_4_code
def yL_bits : MethodName := ⟨RL, "bits", "(I)I"⟩
abbrev cL_law : ByteArray := code
def yL_law : MethodName := ⟨RL, "law", "([I)Z"⟩
def wsX0_init : List Cond := .code yX0_init cX0_init 2 none :: ([.methodLink RX0 3 objectInit, .instanceMethod objectInit, .code objectInit ⟨#[0xb1]⟩ 1 none, .arrayClass .int, .fieldLink RX0 9 "TidegateBourse" "levels" "[I", .fieldLink RX0 13 "TidegateBourse" "prices" "[I", .fieldLink RX0 16 "TidegateBourse" "gates" "[I", .fieldLink RX0 19 "TidegateBourse" "wears" "[I", .fieldLink RX0 22 "TidegateBourse" "repairEnds" "[I", .fieldLink RX0 25 "TidegateBourse" "notes" "[I", .fieldLink RX0 28 "TidegateBourse" "madeUnits" "[I", .fieldLink RX0 31 "TidegateBourse" "soldUnits" "[I", .fieldLink RX0 34 "TidegateBourse" "fishLimit" "I"] ++ wsX00)
def wsX0_requireIndex : List Cond := .code yX0_requireIndex cX0_requireIndex 3 none :: ([.classLink RX0 139 "java/lang/IndexOutOfBoundsException", .initialized "java/lang/IndexOutOfBoundsException"] ++ (vx_atS RX0 143 "java/lang/IndexOutOfBoundsException" ["java/lang/RuntimeException", "java/lang/Exception"]).filter goodWord)
def wsX0_requireRange : List Cond := .code yX0_requireRange cX0_requireRange 3 none :: ([.classLink RX0 144 "java/lang/IllegalArgumentException", .initialized "java/lang/IllegalArgumentException"] ++ (vx_atS RX0 148 "java/lang/IllegalArgumentException" ["java/lang/RuntimeException", "java/lang/Exception"]).filter goodWord)
def wsX0_tide : List Cond := .code yX0_tide cX0_tide 4 (some .int) :: ([.fieldLink RX0 9 "TidegateBourse" "levels" "[I", .methodLink RX0 38 yX0_requireIndex, .static yX0_requireIndex, .initialized RX0, .code yX0_requireIndex cX0_requireIndex 3 none, .classLink RX0 139 "java/lang/IndexOutOfBoundsException", .initialized "java/lang/IndexOutOfBoundsException", .methodLink RX0 42 yX0_requireRange, .static yX0_requireRange, .code yX0_requireRange cX0_requireRange 3 none, .classLink RX0 144 "java/lang/IllegalArgumentException", .initialized "java/lang/IllegalArgumentException"] ++ wsX00 ++ (vx_atS RX0 143 "java/lang/IndexOutOfBoundsException" ["java/lang/RuntimeException", "java/lang/Exception"]).filter goodWord ++ (vx_atS RX0 148 "java/lang/IllegalArgumentException" ["java/lang/RuntimeException", "java/lang/Exception"]).filter goodWord)
def wsX0_price : List Cond := .code yX0_price cX0_price 4 (some .int) :: ([.fieldLink RX0 13 "TidegateBourse" "prices" "[I", .methodLink RX0 38 yX0_requireIndex, .static yX0_requireIndex, .initialized RX0, .code yX0_requireIndex cX0_requireIndex 3 none, .classLink RX0 139 "java/lang/IndexOutOfBoundsException", .initialized "java/lang/IndexOutOfBoundsException", .methodLink RX0 42 yX0_requireRange, .static yX0_requireRange, .code yX0_requireRange cX0_requireRange 3 none, .classLink RX0 144 "java/lang/IllegalArgumentException", .initialized "java/lang/IllegalArgumentException"] ++ wsX00 ++ (vx_atS RX0 143 "java/lang/IndexOutOfBoundsException" ["java/lang/RuntimeException", "java/lang/Exception"]).filter goodWord ++ (vx_atS RX0 148 "java/lang/IllegalArgumentException" ["java/lang/RuntimeException", "java/lang/Exception"]).filter goodWord)
def wsX0_wind : List Cond := .code yX0_wind cX0_wind 3 (some .int) :: ([.fieldLink RX0 45 "TidegateBourse" "windNow" "I", .methodLink RX0 42 yX0_requireRange, .static yX0_requireRange, .initialized RX0, .code yX0_requireRange cX0_requireRange 3 none, .classLink RX0 144 "java/lang/IllegalArgumentException", .initialized "java/lang/IllegalArgumentException"] ++ wsX00 ++ (vx_atS RX0 148 "java/lang/IllegalArgumentException" ["java/lang/RuntimeException", "java/lang/Exception"]).filter goodWord)
def wsX0_turbine : List Cond := .code yX0_turbine cX0_turbine 1 (some .int) :: ([.classLink RX0 51 "java/lang/IllegalStateException", .initialized "java/lang/IllegalStateException", .fieldLink RX0 48 "TidegateBourse" "turbines" "I"] ++ wsX00 ++ (vx_atS RX0 55 "java/lang/IllegalStateException" ["java/lang/RuntimeException", "java/lang/Exception"]).filter goodWord)
def wsX0_gate : List Cond := .code yX0_gate cX0_gate 4 (some .int) :: ([.fieldLink RX0 48 "TidegateBourse" "turbines" "I", .fieldLink RX0 16 "TidegateBourse" "gates" "[I", .methodLink RX0 38 yX0_requireIndex, .static yX0_requireIndex, .initialized RX0, .code yX0_requireIndex cX0_requireIndex 3 none, .classLink RX0 139 "java/lang/IndexOutOfBoundsException", .initialized "java/lang/IndexOutOfBoundsException", .methodLink RX0 42 yX0_requireRange, .static yX0_requireRange, .code yX0_requireRange cX0_requireRange 3 none, .classLink RX0 144 "java/lang/IllegalArgumentException", .initialized "java/lang/IllegalArgumentException"] ++ wsX00 ++ (vx_atS RX0 143 "java/lang/IndexOutOfBoundsException" ["java/lang/RuntimeException", "java/lang/Exception"]).filter goodWord ++ (vx_atS RX0 148 "java/lang/IllegalArgumentException" ["java/lang/RuntimeException", "java/lang/Exception"]).filter goodWord)
def wsX0_repair : List Cond := .code yX0_repair cX0_repair 3 (some .int) :: ([.fieldLink RX0 48 "TidegateBourse" "turbines" "I", .fieldLink RX0 19 "TidegateBourse" "wears" "[I", .fieldLink RX0 22 "TidegateBourse" "repairEnds" "[I", .fieldLink RX0 58 "TidegateBourse" "nextHour" "I", .methodLink RX0 38 yX0_requireIndex, .static yX0_requireIndex, .initialized RX0, .code yX0_requireIndex cX0_requireIndex 3 none, .classLink RX0 139 "java/lang/IndexOutOfBoundsException", .initialized "java/lang/IndexOutOfBoundsException"] ++ wsX00 ++ (vx_atS RX0 143 "java/lang/IndexOutOfBoundsException" ["java/lang/RuntimeException", "java/lang/Exception"]).filter goodWord)
def wsX0_run : List Cond := .code yX0_run cX0_run 2 (some .boolean) :: ([.fieldLink RX0 61 "TidegateBourse" "fishTold" "I", .fieldLink RX0 34 "TidegateBourse" "fishLimit" "I", .methodLink RX0 42 yX0_requireRange, .static yX0_requireRange, .initialized RX0, .code yX0_requireRange cX0_requireRange 3 none, .classLink RX0 144 "java/lang/IllegalArgumentException", .initialized "java/lang/IllegalArgumentException"] ++ wsX00 ++ (vx_atS RX0 148 "java/lang/IllegalArgumentException" ["java/lang/RuntimeException", "java/lang/Exception"]).filter goodWord)
def wsX0_limit : List Cond := .code yX0_limit cX0_limit 3 (some .int) :: ([.fieldLink RX0 34 "TidegateBourse" "fishLimit" "I", .methodLink RX0 42 yX0_requireRange, .static yX0_requireRange, .initialized RX0, .code yX0_requireRange cX0_requireRange 3 none, .classLink RX0 144 "java/lang/IllegalArgumentException", .initialized "java/lang/IllegalArgumentException"] ++ wsX00 ++ (vx_atS RX0 148 "java/lang/IllegalArgumentException" ["java/lang/RuntimeException", "java/lang/Exception"]).filter goodWord)
def wsX0_worth : List Cond := .code yX0_worth cX0_worth 2 (some .float) :: ([])
def wsX0_sell : List Cond := .code yX0_sell cX0_sell 4 (some .int) :: ([.classLink RX0 51 "java/lang/IllegalStateException", .initialized "java/lang/IllegalStateException", .fieldLink RX0 58 "TidegateBourse" "nextHour" "I", .fieldLink RX0 31 "TidegateBourse" "soldUnits" "[I", .fieldLink RX0 66 "TidegateBourse" "balance" "F", .methodLink RX0 38 yX0_requireIndex, .static yX0_requireIndex, .initialized RX0, .code yX0_requireIndex cX0_requireIndex 3 none, .classLink RX0 139 "java/lang/IndexOutOfBoundsException", .initialized "java/lang/IndexOutOfBoundsException", .methodLink RX0 42 yX0_requireRange, .static yX0_requireRange, .code yX0_requireRange cX0_requireRange 3 none, .classLink RX0 144 "java/lang/IllegalArgumentException", .initialized "java/lang/IllegalArgumentException", .methodLink RX0 70 yX0_worth, .static yX0_worth, .code yX0_worth cX0_worth 2 (some .float)] ++ wsX00 ++ (vx_atS RX0 55 "java/lang/IllegalStateException" ["java/lang/RuntimeException", "java/lang/Exception"]).filter goodWord ++ (vx_atS RX0 143 "java/lang/IndexOutOfBoundsException" ["java/lang/RuntimeException", "java/lang/Exception"]).filter goodWord ++ (vx_atS RX0 148 "java/lang/IllegalArgumentException" ["java/lang/RuntimeException", "java/lang/Exception"]).filter goodWord)
def wsX0_noteFor : List Cond := .code yX0_noteFor cX0_noteFor 4 (some .int) :: ([.fieldLink RX0 9 "TidegateBourse" "levels" "[I", .fieldLink RX0 45 "TidegateBourse" "windNow" "I", .methodLink RX0 113 Lib.Math.abs.name, .static Lib.Math.abs.name, .initialized "java/lang/Math", .code Lib.Math.abs.name Lib.Math.abs.code 1 (some .int), .fieldLink RX0 48 "TidegateBourse" "turbines" "I", .fieldLink RX0 16 "TidegateBourse" "gates" "[I", .fieldLink RX0 22 "TidegateBourse" "repairEnds" "[I", .fieldLink RX0 61 "TidegateBourse" "fishTold" "I", .fieldLink RX0 34 "TidegateBourse" "fishLimit" "I", .constant RX0 116 (8388608)] ++ wsX00)
def wsX0_notedRun : List Cond := .code yX0_notedRun cX0_notedRun 1 (some .boolean) :: ([])
def wsX0_notedHead : List Cond := .code yX0_notedHead cX0_notedHead 1 (some .int) :: ([])
def wsX0_works : List Cond := .code yX0_works cX0_works 4 (some .boolean) :: ([])
def wsX0_unitsOf : List Cond := .code yX0_unitsOf cX0_unitsOf 3 (some .int) :: ([])
def wsX0_wearAfter : List Cond := .code yX0_wearAfter cX0_wearAfter 4 (some .int) :: ([.methodLink RX0 129 Lib.Math.min.name, .static Lib.Math.min.name, .initialized "java/lang/Math", .code Lib.Math.min.name Lib.Math.min.code 2 (some .int)])
def wsX0_makeUnits : List Cond := .code yX0_makeUnits cX0_makeUnits 7 (some .int) :: ([.fieldLink RX0 48 "TidegateBourse" "turbines" "I", .fieldLink RX0 16 "TidegateBourse" "gates" "[I", .fieldLink RX0 19 "TidegateBourse" "wears" "[I", .fieldLink RX0 22 "TidegateBourse" "repairEnds" "[I", .fieldLink RX0 93 "TidegateBourse" "closedEnd" "I", .methodLink RX0 117 yX0_works, .static yX0_works, .initialized RX0, .code yX0_works cX0_works 4 (some .boolean), .methodLink RX0 121 yX0_unitsOf, .static yX0_unitsOf, .code yX0_unitsOf cX0_unitsOf 3 (some .int), .methodLink RX0 125 yX0_wearAfter, .static yX0_wearAfter, .code yX0_wearAfter cX0_wearAfter 4 (some .int), .methodLink RX0 129 Lib.Math.min.name, .static Lib.Math.min.name, .initialized "java/lang/Math", .code Lib.Math.min.name Lib.Math.min.code 2 (some .int)] ++ wsX00)
def wsX0_settle : List Cond := .code yX0_settle cX0_settle 4 none :: ([.fieldLink RX0 13 "TidegateBourse" "prices" "[I", .fieldLink RX0 28 "TidegateBourse" "madeUnits" "[I", .fieldLink RX0 31 "TidegateBourse" "soldUnits" "[I", .fieldLink RX0 66 "TidegateBourse" "balance" "F", .constantFloat RX0 128 (1056964608), .methodLink RX0 70 yX0_worth, .static yX0_worth, .initialized RX0, .code yX0_worth cX0_worth 2 (some .float)] ++ wsX00)
def wsX0_goBy_r1 : List Cond := [Cond.fieldLink RX0 93 "TidegateBourse" "closedEnd" "I", Cond.fieldLink RX0 25 "TidegateBourse" "notes" "[I", Cond.fieldLink RX0 28 "TidegateBourse" "madeUnits" "[I", Cond.fieldLink RX0 61 "TidegateBourse" "fishTold" "I", Cond.fieldLink RX0 58 "TidegateBourse" "nextHour" "I", Cond.methodLink RX0 100 yX0_noteFor, Cond.instanceMethod yX0_noteFor, Cond.selects RX0 yX0_noteFor yX0_noteFor, Cond.initialized RX0, Cond.code yX0_noteFor cX0_noteFor 4 (some .int), Cond.fieldLink RX0 9 "TidegateBourse" "levels" "[I", Cond.fieldLink RX0 45 "TidegateBourse" "windNow" "I", Cond.methodLink RX0 113 Lib.Math.abs.name, Cond.static Lib.Math.abs.name, Cond.initialized "java/lang/Math", Cond.code Lib.Math.abs.name Lib.Math.abs.code 1 (some .int), Cond.fieldLink RX0 48 "TidegateBourse" "turbines" "I", Cond.fieldLink RX0 16 "TidegateBourse" "gates" "[I", Cond.fieldLink RX0 22 "TidegateBourse" "repairEnds" "[I", Cond.fieldLink RX0 34 "TidegateBourse" "fishLimit" "I", Cond.constant RX0 116 (8388608), Cond.methodLink RX0 103 yX0_notedRun, Cond.static yX0_notedRun, Cond.code yX0_notedRun cX0_notedRun 1 (some .boolean)]
def wsX0_goBy_r2 : List Cond := [Cond.methodLink RX0 89 yX0_notedHead, Cond.static yX0_notedHead, Cond.code yX0_notedHead cX0_notedHead 1 (some .int), Cond.methodLink RX0 107 yX0_makeUnits, Cond.instanceMethod yX0_makeUnits, Cond.selects RX0 yX0_makeUnits yX0_makeUnits, Cond.code yX0_makeUnits cX0_makeUnits 7 (some .int), Cond.fieldLink RX0 19 "TidegateBourse" "wears" "[I", Cond.methodLink RX0 117 yX0_works, Cond.static yX0_works, Cond.code yX0_works cX0_works 4 (some .boolean), Cond.methodLink RX0 121 yX0_unitsOf, Cond.static yX0_unitsOf, Cond.code yX0_unitsOf cX0_unitsOf 3 (some .int), Cond.methodLink RX0 125 yX0_wearAfter, Cond.static yX0_wearAfter, Cond.code yX0_wearAfter cX0_wearAfter 4 (some .int), Cond.methodLink RX0 129 Lib.Math.min.name, Cond.static Lib.Math.min.name, Cond.code Lib.Math.min.name Lib.Math.min.code 2 (some .int), Cond.methodLink RX0 110 yX0_settle, Cond.instanceMethod yX0_settle, Cond.selects RX0 yX0_settle yX0_settle, Cond.code yX0_settle cX0_settle 4 none]
def wsX0_goBy_r3 : List Cond := [Cond.fieldLink RX0 13 "TidegateBourse" "prices" "[I", Cond.fieldLink RX0 31 "TidegateBourse" "soldUnits" "[I", Cond.fieldLink RX0 66 "TidegateBourse" "balance" "F", Cond.constantFloat RX0 128 (1056964608), Cond.methodLink RX0 70 yX0_worth, Cond.static yX0_worth, Cond.code yX0_worth cX0_worth 2 (some .float)]
def wsX0_goBy : List Cond := .code yX0_goBy cX0_goBy 3 none :: ((wsX0_goBy_r1 ++ (wsX0_goBy_r2 ++ wsX0_goBy_r3)) ++ wsX00)
def wsX0_pass_r1 : List Cond := [Cond.classLink RX0 51 "java/lang/IllegalStateException", Cond.initialized "java/lang/IllegalStateException", Cond.fieldLink RX0 58 "TidegateBourse" "nextHour" "I", Cond.methodLink RX0 42 yX0_requireRange, Cond.static yX0_requireRange, Cond.initialized RX0, Cond.code yX0_requireRange cX0_requireRange 3 none, Cond.classLink RX0 144 "java/lang/IllegalArgumentException", Cond.initialized "java/lang/IllegalArgumentException", Cond.methodLink RX0 76 yX0_goBy, Cond.instanceMethod yX0_goBy, Cond.selects RX0 yX0_goBy yX0_goBy, Cond.code yX0_goBy cX0_goBy 3 none, Cond.fieldLink RX0 93 "TidegateBourse" "closedEnd" "I", Cond.fieldLink RX0 25 "TidegateBourse" "notes" "[I", Cond.fieldLink RX0 28 "TidegateBourse" "madeUnits" "[I", Cond.fieldLink RX0 61 "TidegateBourse" "fishTold" "I", Cond.methodLink RX0 100 yX0_noteFor, Cond.instanceMethod yX0_noteFor, Cond.selects RX0 yX0_noteFor yX0_noteFor, Cond.code yX0_noteFor cX0_noteFor 4 (some .int), Cond.fieldLink RX0 9 "TidegateBourse" "levels" "[I", Cond.fieldLink RX0 45 "TidegateBourse" "windNow" "I", Cond.methodLink RX0 113 Lib.Math.abs.name]
def wsX0_pass_r2 : List Cond := [Cond.static Lib.Math.abs.name, Cond.initialized "java/lang/Math", Cond.code Lib.Math.abs.name Lib.Math.abs.code 1 (some .int), Cond.fieldLink RX0 48 "TidegateBourse" "turbines" "I", Cond.fieldLink RX0 16 "TidegateBourse" "gates" "[I", Cond.fieldLink RX0 22 "TidegateBourse" "repairEnds" "[I", Cond.fieldLink RX0 34 "TidegateBourse" "fishLimit" "I", Cond.constant RX0 116 (8388608), Cond.methodLink RX0 103 yX0_notedRun, Cond.static yX0_notedRun, Cond.code yX0_notedRun cX0_notedRun 1 (some .boolean), Cond.methodLink RX0 89 yX0_notedHead, Cond.static yX0_notedHead, Cond.code yX0_notedHead cX0_notedHead 1 (some .int), Cond.methodLink RX0 107 yX0_makeUnits, Cond.instanceMethod yX0_makeUnits, Cond.selects RX0 yX0_makeUnits yX0_makeUnits, Cond.code yX0_makeUnits cX0_makeUnits 7 (some .int), Cond.fieldLink RX0 19 "TidegateBourse" "wears" "[I", Cond.methodLink RX0 117 yX0_works, Cond.static yX0_works, Cond.code yX0_works cX0_works 4 (some .boolean), Cond.methodLink RX0 121 yX0_unitsOf, Cond.static yX0_unitsOf]
def wsX0_pass_r3 : List Cond := [Cond.code yX0_unitsOf cX0_unitsOf 3 (some .int), Cond.methodLink RX0 125 yX0_wearAfter, Cond.static yX0_wearAfter, Cond.code yX0_wearAfter cX0_wearAfter 4 (some .int), Cond.methodLink RX0 129 Lib.Math.min.name, Cond.static Lib.Math.min.name, Cond.code Lib.Math.min.name Lib.Math.min.code 2 (some .int), Cond.methodLink RX0 110 yX0_settle, Cond.instanceMethod yX0_settle, Cond.selects RX0 yX0_settle yX0_settle, Cond.code yX0_settle cX0_settle 4 none, Cond.fieldLink RX0 13 "TidegateBourse" "prices" "[I", Cond.fieldLink RX0 31 "TidegateBourse" "soldUnits" "[I", Cond.fieldLink RX0 66 "TidegateBourse" "balance" "F", Cond.constantFloat RX0 128 (1056964608), Cond.methodLink RX0 70 yX0_worth, Cond.static yX0_worth, Cond.code yX0_worth cX0_worth 2 (some .float)]
def wsX0_pass : List Cond := .code yX0_pass cX0_pass 4 (some .int) :: ((wsX0_pass_r1 ++ (wsX0_pass_r2 ++ wsX0_pass_r3)) ++ wsX00 ++ (vx_atS RX0 55 "java/lang/IllegalStateException" ["java/lang/RuntimeException", "java/lang/Exception"]).filter goodWord ++ (vx_atS RX0 148 "java/lang/IllegalArgumentException" ["java/lang/RuntimeException", "java/lang/Exception"]).filter goodWord)
def wsX0_now : List Cond := .code yX0_now cX0_now 1 (some .int) :: ([.fieldLink RX0 58 "TidegateBourse" "nextHour" "I"] ++ wsX00)
def wsX0_made : List Cond := .code yX0_made cX0_made 2 (some .int) :: ([.fieldLink RX0 58 "TidegateBourse" "nextHour" "I", .fieldLink RX0 28 "TidegateBourse" "madeUnits" "[I", .methodLink RX0 38 yX0_requireIndex, .static yX0_requireIndex, .initialized RX0, .code yX0_requireIndex cX0_requireIndex 3 none, .classLink RX0 139 "java/lang/IndexOutOfBoundsException", .initialized "java/lang/IndexOutOfBoundsException"] ++ wsX00 ++ (vx_atS RX0 143 "java/lang/IndexOutOfBoundsException" ["java/lang/RuntimeException", "java/lang/Exception"]).filter goodWord)
def wsX0_notedRepair : List Cond := .code yX0_notedRepair cX0_notedRepair 2 (some .boolean) :: ([])
def wsX0_notedGate : List Cond := .code yX0_notedGate cX0_notedGate 2 (some .int) :: ([])
def wsX0_unitsFromNotes_r1 : List Cond := [Cond.fieldLink RX0 25 "TidegateBourse" "notes" "[I", Cond.methodLink RX0 132 yX0_notedRepair, Cond.static yX0_notedRepair, Cond.initialized RX0, Cond.code yX0_notedRepair cX0_notedRepair 2 (some .boolean), Cond.methodLink RX0 103 yX0_notedRun, Cond.static yX0_notedRun, Cond.code yX0_notedRun cX0_notedRun 1 (some .boolean), Cond.methodLink RX0 117 yX0_works, Cond.static yX0_works, Cond.code yX0_works cX0_works 4 (some .boolean), Cond.methodLink RX0 89 yX0_notedHead, Cond.static yX0_notedHead, Cond.code yX0_notedHead cX0_notedHead 1 (some .int), Cond.methodLink RX0 136 yX0_notedGate, Cond.static yX0_notedGate, Cond.code yX0_notedGate cX0_notedGate 2 (some .int), Cond.methodLink RX0 121 yX0_unitsOf, Cond.static yX0_unitsOf, Cond.code yX0_unitsOf cX0_unitsOf 3 (some .int), Cond.methodLink RX0 125 yX0_wearAfter, Cond.static yX0_wearAfter, Cond.code yX0_wearAfter cX0_wearAfter 4 (some .int), Cond.methodLink RX0 129 Lib.Math.min.name]
def wsX0_unitsFromNotes_r2 : List Cond := [Cond.static Lib.Math.min.name, Cond.initialized "java/lang/Math", Cond.code Lib.Math.min.name Lib.Math.min.code 2 (some .int)]
def wsX0_unitsFromNotes : List Cond := .code yX0_unitsFromNotes cX0_unitsFromNotes 9 (some .int) :: ((wsX0_unitsFromNotes_r1 ++ wsX0_unitsFromNotes_r2) ++ wsX00)
def wsX0_madeAnew_r1 : List Cond := [Cond.fieldLink RX0 58 "TidegateBourse" "nextHour" "I", Cond.methodLink RX0 38 yX0_requireIndex, Cond.static yX0_requireIndex, Cond.initialized RX0, Cond.code yX0_requireIndex cX0_requireIndex 3 none, Cond.classLink RX0 139 "java/lang/IndexOutOfBoundsException", Cond.initialized "java/lang/IndexOutOfBoundsException", Cond.methodLink RX0 80 yX0_unitsFromNotes, Cond.instanceMethod yX0_unitsFromNotes, Cond.selects RX0 yX0_unitsFromNotes yX0_unitsFromNotes, Cond.code yX0_unitsFromNotes cX0_unitsFromNotes 9 (some .int), Cond.fieldLink RX0 25 "TidegateBourse" "notes" "[I", Cond.methodLink RX0 132 yX0_notedRepair, Cond.static yX0_notedRepair, Cond.code yX0_notedRepair cX0_notedRepair 2 (some .boolean), Cond.methodLink RX0 103 yX0_notedRun, Cond.static yX0_notedRun, Cond.code yX0_notedRun cX0_notedRun 1 (some .boolean), Cond.methodLink RX0 117 yX0_works, Cond.static yX0_works, Cond.code yX0_works cX0_works 4 (some .boolean), Cond.methodLink RX0 89 yX0_notedHead, Cond.static yX0_notedHead, Cond.code yX0_notedHead cX0_notedHead 1 (some .int)]
def wsX0_madeAnew_r2 : List Cond := [Cond.methodLink RX0 136 yX0_notedGate, Cond.static yX0_notedGate, Cond.code yX0_notedGate cX0_notedGate 2 (some .int), Cond.methodLink RX0 121 yX0_unitsOf, Cond.static yX0_unitsOf, Cond.code yX0_unitsOf cX0_unitsOf 3 (some .int), Cond.methodLink RX0 125 yX0_wearAfter, Cond.static yX0_wearAfter, Cond.code yX0_wearAfter cX0_wearAfter 4 (some .int), Cond.methodLink RX0 129 Lib.Math.min.name, Cond.static Lib.Math.min.name, Cond.initialized "java/lang/Math", Cond.code Lib.Math.min.name Lib.Math.min.code 2 (some .int)]
def wsX0_madeAnew : List Cond := .code yX0_madeAnew cX0_madeAnew 4 (some .int) :: ((wsX0_madeAnew_r1 ++ wsX0_madeAnew_r2) ++ wsX00 ++ (vx_atS RX0 143 "java/lang/IndexOutOfBoundsException" ["java/lang/RuntimeException", "java/lang/Exception"]).filter goodWord)
def wsX0_sold : List Cond := .code yX0_sold cX0_sold 2 (some .int) :: ([.fieldLink RX0 58 "TidegateBourse" "nextHour" "I", .fieldLink RX0 31 "TidegateBourse" "soldUnits" "[I", .methodLink RX0 38 yX0_requireIndex, .static yX0_requireIndex, .initialized RX0, .code yX0_requireIndex cX0_requireIndex 3 none, .classLink RX0 139 "java/lang/IndexOutOfBoundsException", .initialized "java/lang/IndexOutOfBoundsException"] ++ wsX00 ++ (vx_atS RX0 143 "java/lang/IndexOutOfBoundsException" ["java/lang/RuntimeException", "java/lang/Exception"]).filter goodWord)
def wsX0_bought : List Cond := .code yX0_bought cX0_bought 2 (some .int) :: ([.fieldLink RX0 58 "TidegateBourse" "nextHour" "I", .fieldLink RX0 31 "TidegateBourse" "soldUnits" "[I", .fieldLink RX0 28 "TidegateBourse" "madeUnits" "[I", .methodLink RX0 84 Lib.Math.max.name, .static Lib.Math.max.name, .initialized "java/lang/Math", .code Lib.Math.max.name Lib.Math.max.code 2 (some .int), .methodLink RX0 38 yX0_requireIndex, .static yX0_requireIndex, .initialized RX0, .code yX0_requireIndex cX0_requireIndex 3 none, .classLink RX0 139 "java/lang/IndexOutOfBoundsException", .initialized "java/lang/IndexOutOfBoundsException"] ++ wsX00 ++ (vx_atS RX0 143 "java/lang/IndexOutOfBoundsException" ["java/lang/RuntimeException", "java/lang/Exception"]).filter goodWord)
def wsX0_head : List Cond := .code yX0_head cX0_head 2 (some .int) :: ([.fieldLink RX0 58 "TidegateBourse" "nextHour" "I", .fieldLink RX0 25 "TidegateBourse" "notes" "[I", .methodLink RX0 38 yX0_requireIndex, .static yX0_requireIndex, .initialized RX0, .code yX0_requireIndex cX0_requireIndex 3 none, .classLink RX0 139 "java/lang/IndexOutOfBoundsException", .initialized "java/lang/IndexOutOfBoundsException", .methodLink RX0 89 yX0_notedHead, .static yX0_notedHead, .code yX0_notedHead cX0_notedHead 1 (some .int)] ++ wsX00 ++ (vx_atS RX0 143 "java/lang/IndexOutOfBoundsException" ["java/lang/RuntimeException", "java/lang/Exception"]).filter goodWord)
def wsX0_about : List Cond := .code yX0_about cX0_about 3 (some .int) :: ([.fieldLink RX0 48 "TidegateBourse" "turbines" "I", .fieldLink RX0 16 "TidegateBourse" "gates" "[I", .fieldLink RX0 19 "TidegateBourse" "wears" "[I", .fieldLink RX0 22 "TidegateBourse" "repairEnds" "[I", .fieldLink RX0 58 "TidegateBourse" "nextHour" "I", .methodLink RX0 84 Lib.Math.max.name, .static Lib.Math.max.name, .initialized "java/lang/Math", .code Lib.Math.max.name Lib.Math.max.code 2 (some .int), .methodLink RX0 38 yX0_requireIndex, .static yX0_requireIndex, .initialized RX0, .code yX0_requireIndex cX0_requireIndex 3 none, .classLink RX0 139 "java/lang/IndexOutOfBoundsException", .initialized "java/lang/IndexOutOfBoundsException", .methodLink RX0 42 yX0_requireRange, .static yX0_requireRange, .code yX0_requireRange cX0_requireRange 3 none, .classLink RX0 144 "java/lang/IllegalArgumentException", .initialized "java/lang/IllegalArgumentException"] ++ wsX00 ++ (vx_atS RX0 143 "java/lang/IndexOutOfBoundsException" ["java/lang/RuntimeException", "java/lang/Exception"]).filter goodWord ++ (vx_atS RX0 148 "java/lang/IllegalArgumentException" ["java/lang/RuntimeException", "java/lang/Exception"]).filter goodWord)
def wsX0_closed : List Cond := .code yX0_closed cX0_closed 1 (some .int) :: ([.fieldLink RX0 93 "TidegateBourse" "closedEnd" "I", .fieldLink RX0 58 "TidegateBourse" "nextHour" "I", .methodLink RX0 84 Lib.Math.max.name, .static Lib.Math.max.name, .initialized "java/lang/Math", .code Lib.Math.max.name Lib.Math.max.code 2 (some .int)] ++ wsX00)
def wsX0_bitsOf : List Cond := .code yX0_bitsOf cX0_bitsOf 5 (some .int) :: ([.constantFloat RX0 128 (1056964608), .constantFloat RX0 149 (1258291200), .constant RX0 150 (-2147483648)])
def wsX0_money : List Cond := .code yX0_money cX0_money 1 (some .int) :: ([.fieldLink RX0 66 "TidegateBourse" "balance" "F", .methodLink RX0 96 yX0_bitsOf, .static yX0_bitsOf, .initialized RX0, .code yX0_bitsOf cX0_bitsOf 5 (some .int), .constantFloat RX0 128 (1056964608), .constantFloat RX0 149 (1258291200), .constant RX0 150 (-2147483648)] ++ wsX00)
def wsJ9_abs_0f7a4 : List Cond := .code yJ9_abs_0f7a4 cJ9_abs_0f7a4 1 (some .int) :: ([])
def wsJ9_max_7cf53 : List Cond := .code yJ9_max_7cf53 cJ9_max_7cf53 2 (some .int) :: ([])
def wsJ9_min_7cf53 : List Cond := .code yJ9_min_7cf53 cJ9_min_7cf53 2 (some .int) :: ([])
def wsL_cell : List Cond := .code yL_cell cL_cell 2 (some .int) :: ([.constant RL 7 (1000308317), .constant RL 8 (751363491)])
def wsL_low : List Cond := .code yL_low cL_low 2 (some .int) :: ([.constant RL 9 (2147483647)])
def wsL_bits : List Cond := .code yL_bits cL_bits 4 (some .int) :: ([.constant RL 10 (-2147483648)])
def wsL_law0_r1 : List Cond := [Cond.classLink RL 11 RX0, Cond.instantiable RX0 15, Cond.initialized RX0, Cond.arrayClass .int, Cond.methodLink RL 13 yX0_init, Cond.instanceMethod yX0_init, Cond.code yX0_init cX0_init 2 none, Cond.methodLink RX0 3 objectInit, Cond.instanceMethod objectInit, Cond.code objectInit ⟨#[0xb1]⟩ 1 none, Cond.fieldLink RX0 9 "TidegateBourse" "levels" "[I", Cond.fieldLink RX0 13 "TidegateBourse" "prices" "[I", Cond.fieldLink RX0 16 "TidegateBourse" "gates" "[I", Cond.fieldLink RX0 19 "TidegateBourse" "wears" "[I", Cond.fieldLink RX0 22 "TidegateBourse" "repairEnds" "[I", Cond.fieldLink RX0 25 "TidegateBourse" "notes" "[I", Cond.fieldLink RX0 28 "TidegateBourse" "madeUnits" "[I", Cond.fieldLink RX0 31 "TidegateBourse" "soldUnits" "[I", Cond.fieldLink RX0 34 "TidegateBourse" "fishLimit" "I", Cond.methodLink RL 14 yL_cell, Cond.static yL_cell, Cond.initialized RL, Cond.code yL_cell cL_cell 2 (some .int), Cond.constant RL 7 (1000308317)]
def wsL_law0_r2 : List Cond := [Cond.constant RL 8 (751363491), Cond.methodLink RL 20 yL_low, Cond.static yL_low, Cond.code yL_low cL_low 2 (some .int), Cond.constant RL 9 (2147483647), Cond.methodLink RL 24 yX0_turbine, Cond.instanceMethod yX0_turbine, Cond.selects RX0 yX0_turbine yX0_turbine, Cond.code yX0_turbine cX0_turbine 1 (some .int), Cond.classLink RX0 51 "java/lang/IllegalStateException", Cond.initialized "java/lang/IllegalStateException", Cond.fieldLink RX0 48 "TidegateBourse" "turbines" "I", Cond.methodLink RL 28 yX0_tide, Cond.instanceMethod yX0_tide, Cond.selects RX0 yX0_tide yX0_tide, Cond.code yX0_tide cX0_tide 4 (some .int), Cond.methodLink RX0 38 yX0_requireIndex, Cond.static yX0_requireIndex, Cond.code yX0_requireIndex cX0_requireIndex 3 none, Cond.classLink RX0 139 "java/lang/IndexOutOfBoundsException", Cond.initialized "java/lang/IndexOutOfBoundsException", Cond.methodLink RX0 42 yX0_requireRange, Cond.static yX0_requireRange, Cond.code yX0_requireRange cX0_requireRange 3 none]
def wsL_law0_r3 : List Cond := [Cond.classLink RX0 144 "java/lang/IllegalArgumentException", Cond.initialized "java/lang/IllegalArgumentException", Cond.methodLink RL 31 yX0_price, Cond.instanceMethod yX0_price, Cond.selects RX0 yX0_price yX0_price, Cond.code yX0_price cX0_price 4 (some .int), Cond.methodLink RL 34 yX0_wind, Cond.instanceMethod yX0_wind, Cond.selects RX0 yX0_wind yX0_wind, Cond.code yX0_wind cX0_wind 3 (some .int), Cond.fieldLink RX0 45 "TidegateBourse" "windNow" "I", Cond.methodLink RL 38 yX0_gate, Cond.instanceMethod yX0_gate, Cond.selects RX0 yX0_gate yX0_gate, Cond.code yX0_gate cX0_gate 4 (some .int), Cond.methodLink RL 41 yX0_repair, Cond.instanceMethod yX0_repair, Cond.selects RX0 yX0_repair yX0_repair, Cond.code yX0_repair cX0_repair 3 (some .int), Cond.fieldLink RX0 58 "TidegateBourse" "nextHour" "I", Cond.methodLink RL 44 yX0_limit, Cond.instanceMethod yX0_limit, Cond.selects RX0 yX0_limit yX0_limit, Cond.code yX0_limit cX0_limit 3 (some .int)]
def wsL_law0_r4 : List Cond := [Cond.methodLink RL 47 yX0_run, Cond.instanceMethod yX0_run, Cond.selects RX0 yX0_run yX0_run, Cond.code yX0_run cX0_run 2 (some .boolean), Cond.fieldLink RX0 61 "TidegateBourse" "fishTold" "I", Cond.methodLink RL 51 yX0_sell, Cond.instanceMethod yX0_sell, Cond.selects RX0 yX0_sell yX0_sell, Cond.code yX0_sell cX0_sell 4 (some .int), Cond.fieldLink RX0 66 "TidegateBourse" "balance" "F", Cond.methodLink RX0 70 yX0_worth, Cond.static yX0_worth, Cond.code yX0_worth cX0_worth 2 (some .float), Cond.methodLink RL 55 yX0_pass, Cond.instanceMethod yX0_pass, Cond.selects RX0 yX0_pass yX0_pass, Cond.code yX0_pass cX0_pass 4 (some .int), Cond.methodLink RX0 76 yX0_goBy, Cond.instanceMethod yX0_goBy, Cond.selects RX0 yX0_goBy yX0_goBy, Cond.code yX0_goBy cX0_goBy 3 none, Cond.fieldLink RX0 93 "TidegateBourse" "closedEnd" "I", Cond.methodLink RX0 100 yX0_noteFor, Cond.instanceMethod yX0_noteFor]
def wsL_law0_r5 : List Cond := [Cond.selects RX0 yX0_noteFor yX0_noteFor, Cond.code yX0_noteFor cX0_noteFor 4 (some .int), Cond.methodLink RX0 113 Lib.Math.abs.name, Cond.static Lib.Math.abs.name, Cond.initialized "java/lang/Math", Cond.code Lib.Math.abs.name Lib.Math.abs.code 1 (some .int), Cond.constant RX0 116 (8388608), Cond.methodLink RX0 103 yX0_notedRun, Cond.static yX0_notedRun, Cond.code yX0_notedRun cX0_notedRun 1 (some .boolean), Cond.methodLink RX0 89 yX0_notedHead, Cond.static yX0_notedHead, Cond.code yX0_notedHead cX0_notedHead 1 (some .int), Cond.methodLink RX0 107 yX0_makeUnits, Cond.instanceMethod yX0_makeUnits, Cond.selects RX0 yX0_makeUnits yX0_makeUnits, Cond.code yX0_makeUnits cX0_makeUnits 7 (some .int), Cond.methodLink RX0 117 yX0_works, Cond.static yX0_works, Cond.code yX0_works cX0_works 4 (some .boolean), Cond.methodLink RX0 121 yX0_unitsOf, Cond.static yX0_unitsOf, Cond.code yX0_unitsOf cX0_unitsOf 3 (some .int), Cond.methodLink RX0 125 yX0_wearAfter]
def wsL_law0_r6 : List Cond := [Cond.static yX0_wearAfter, Cond.code yX0_wearAfter cX0_wearAfter 4 (some .int), Cond.methodLink RX0 129 Lib.Math.min.name, Cond.static Lib.Math.min.name, Cond.code Lib.Math.min.name Lib.Math.min.code 2 (some .int), Cond.methodLink RX0 110 yX0_settle, Cond.instanceMethod yX0_settle, Cond.selects RX0 yX0_settle yX0_settle, Cond.code yX0_settle cX0_settle 4 none, Cond.constantFloat RX0 128 (1056964608), Cond.methodLink RL 58 yX0_made, Cond.instanceMethod yX0_made, Cond.selects RX0 yX0_made yX0_made, Cond.code yX0_made cX0_made 2 (some .int), Cond.methodLink RL 61 yX0_madeAnew, Cond.instanceMethod yX0_madeAnew, Cond.selects RX0 yX0_madeAnew yX0_madeAnew, Cond.code yX0_madeAnew cX0_madeAnew 4 (some .int), Cond.methodLink RX0 80 yX0_unitsFromNotes, Cond.instanceMethod yX0_unitsFromNotes, Cond.selects RX0 yX0_unitsFromNotes yX0_unitsFromNotes, Cond.code yX0_unitsFromNotes cX0_unitsFromNotes 9 (some .int), Cond.methodLink RX0 132 yX0_notedRepair, Cond.static yX0_notedRepair]
def wsL_law0_r7 : List Cond := [Cond.code yX0_notedRepair cX0_notedRepair 2 (some .boolean), Cond.methodLink RX0 136 yX0_notedGate, Cond.static yX0_notedGate, Cond.code yX0_notedGate cX0_notedGate 2 (some .int), Cond.methodLink RL 64 yX0_head, Cond.instanceMethod yX0_head, Cond.selects RX0 yX0_head yX0_head, Cond.code yX0_head cX0_head 2 (some .int), Cond.methodLink RL 67 yX0_bought, Cond.instanceMethod yX0_bought, Cond.selects RX0 yX0_bought yX0_bought, Cond.code yX0_bought cX0_bought 2 (some .int), Cond.methodLink RX0 84 Lib.Math.max.name, Cond.static Lib.Math.max.name, Cond.code Lib.Math.max.name Lib.Math.max.code 2 (some .int), Cond.methodLink RL 70 yX0_about, Cond.instanceMethod yX0_about, Cond.selects RX0 yX0_about yX0_about, Cond.code yX0_about cX0_about 3 (some .int), Cond.methodLink RL 73 yX0_now, Cond.instanceMethod yX0_now, Cond.selects RX0 yX0_now yX0_now, Cond.code yX0_now cX0_now 1 (some .int), Cond.methodLink RL 76 yX0_closed]
def wsL_law0_r8 : List Cond := [Cond.instanceMethod yX0_closed, Cond.selects RX0 yX0_closed yX0_closed, Cond.code yX0_closed cX0_closed 1 (some .int), Cond.methodLink RL 79 yX0_money, Cond.instanceMethod yX0_money, Cond.selects RX0 yX0_money yX0_money, Cond.code yX0_money cX0_money 1 (some .int), Cond.methodLink RX0 96 yX0_bitsOf, Cond.static yX0_bitsOf, Cond.code yX0_bitsOf cX0_bitsOf 5 (some .int), Cond.constantFloat RX0 149 (1258291200), Cond.constant RX0 150 (-2147483648), Cond.methodLink RL 82 yL_bits, Cond.static yL_bits, Cond.code yL_bits cL_bits 4 (some .int), Cond.constant RL 10 (-2147483648), Cond.methodLink RL 85 yX0_sold, Cond.instanceMethod yX0_sold, Cond.selects RX0 yX0_sold yX0_sold, Cond.code yX0_sold cX0_sold 2 (some .int)]
def wsL_law0 : List Cond := (wsL_law0_r1 ++ (wsL_law0_r2 ++ (wsL_law0_r3 ++ (wsL_law0_r4 ++ (wsL_law0_r5 ++ (wsL_law0_r6 ++ (wsL_law0_r7 ++ wsL_law0_r8))))))) ++ wsX00 ++ ([] : List Cond)
def wsL_law : List Cond := wsL_law0 ++ (vx_atS RX0 55 "java/lang/IllegalStateException" ["java/lang/RuntimeException", "java/lang/Exception"]).filter goodWord ++ (vx_atS RX0 143 "java/lang/IndexOutOfBoundsException" ["java/lang/RuntimeException", "java/lang/Exception"]).filter goodWord ++ (vx_atS RX0 148 "java/lang/IllegalArgumentException" ["java/lang/RuntimeException", "java/lang/Exception"]).filter goodWord
set_option maxRecDepth 20000 in
theorem wsL_law_in0 : ∀ w ∈ wsL_law0, w ∈ lw_tbl := fun w h => (goodIn_p wsL_law0 [19, 22, 316, 321, 175, 73, 76, 147, 167, 171, 195, 199, 207, 203, 211, 215, 219, 224, 228, 231, 235, 238, 242, 245, 248, 251, 254, 258, 267, 271, 275, 278, 281, 296, 289, 292, 300, 263, 304, 308, 311, 325, 285] (by decide +kernel) (by decide +kernel) w h).1
theorem wsL_law_x0 : ∀ w ∈ (vx_atS RX0 55 "java/lang/IllegalStateException" ["java/lang/RuntimeException", "java/lang/Exception"]).filter goodWord, w ∈ lw_tbl := by decide +kernel
theorem wsL_law_x1 : ∀ w ∈ (vx_atS RX0 143 "java/lang/IndexOutOfBoundsException" ["java/lang/RuntimeException", "java/lang/Exception"]).filter goodWord, w ∈ lw_tbl := by decide +kernel
theorem wsL_law_x2 : ∀ w ∈ (vx_atS RX0 148 "java/lang/IllegalArgumentException" ["java/lang/RuntimeException", "java/lang/Exception"]).filter goodWord, w ∈ lw_tbl := by decide +kernel
theorem wsL_law_in : ∀ w ∈ wsL_law, w ∈ lw_tbl := fun w h => (List.mem_append.mp h).elim (fun h => (List.mem_append.mp h).elim (fun h => (List.mem_append.mp h).elim (fun h => wsL_law_in0 w h) (fun h => wsL_law_x0 w h)) (fun h => wsL_law_x1 w h)) (fun h => wsL_law_x2 w h)
theorem inlX0 : ∀ w ∈ wsX00, w ∈ wsL_law := fun _ h => List.mem_append_left _ (List.mem_append_left _ (List.mem_append_left _ (List.mem_append_left _ (List.mem_append_right _ h))))
theorem inX0 : ∀ w ∈ wsX00, w ∈ lw_tbl := fun w h => wsL_law_in w (inlX0 w h)
theorem inX1 : ∀ w ∈ wsX10, w ∈ lw_tbl := by decide +kernel
theorem inJ9 : ∀ w ∈ wsJ90, w ∈ lw_tbl := by decide +kernel
theorem inJ0 : ∀ w ∈ wsJ00, w ∈ lw_tbl := by decide +kernel
theorem dX0_init_0 : decode cX0_init 0 = .ok (.aload_n 0, 1) := by decide +kernel
theorem dX0_init_1 : decode cX0_init 1 = .ok (.invokespecial 3, 3) := by decide +kernel
theorem dX0_init_4 : decode cX0_init 4 = .ok (.aload_n 0, 1) := by decide +kernel
theorem dX0_init_5 : decode cX0_init 5 = .ok (.bipush 24, 2) := by decide +kernel
theorem dX0_init_7 : decode cX0_init 7 = .ok (.newarray .int, 2) := by decide +kernel
theorem dX0_init_9 : decode cX0_init 9 = .ok (.putfield 9, 3) := by decide +kernel
theorem dX0_init_12 : decode cX0_init 12 = .ok (.aload_n 0, 1) := by decide +kernel
theorem dX0_init_13 : decode cX0_init 13 = .ok (.bipush 24, 2) := by decide +kernel
theorem dX0_init_15 : decode cX0_init 15 = .ok (.newarray .int, 2) := by decide +kernel
theorem dX0_init_17 : decode cX0_init 17 = .ok (.putfield 13, 3) := by decide +kernel
theorem dX0_init_20 : decode cX0_init 20 = .ok (.aload_n 0, 1) := by decide +kernel
theorem dX0_init_21 : decode cX0_init 21 = .ok (.iconst 4, 1) := by decide +kernel
theorem dX0_init_22 : decode cX0_init 22 = .ok (.newarray .int, 2) := by decide +kernel
theorem dX0_init_24 : decode cX0_init 24 = .ok (.putfield 16, 3) := by decide +kernel
theorem dX0_init_27 : decode cX0_init 27 = .ok (.aload_n 0, 1) := by decide +kernel
theorem dX0_init_28 : decode cX0_init 28 = .ok (.iconst 4, 1) := by decide +kernel
theorem dX0_init_29 : decode cX0_init 29 = .ok (.newarray .int, 2) := by decide +kernel
theorem dX0_init_31 : decode cX0_init 31 = .ok (.putfield 19, 3) := by decide +kernel
theorem dX0_init_34 : decode cX0_init 34 = .ok (.aload_n 0, 1) := by decide +kernel
theorem dX0_init_35 : decode cX0_init 35 = .ok (.iconst 4, 1) := by decide +kernel
theorem dX0_init_36 : decode cX0_init 36 = .ok (.newarray .int, 2) := by decide +kernel
theorem dX0_init_38 : decode cX0_init 38 = .ok (.putfield 22, 3) := by decide +kernel
theorem dX0_init_41 : decode cX0_init 41 = .ok (.aload_n 0, 1) := by decide +kernel
theorem dX0_init_42 : decode cX0_init 42 = .ok (.sipush 500, 3) := by decide +kernel
theorem dX0_init_45 : decode cX0_init 45 = .ok (.newarray .int, 2) := by decide +kernel
theorem dX0_init_47 : decode cX0_init 47 = .ok (.putfield 25, 3) := by decide +kernel
theorem dX0_init_50 : decode cX0_init 50 = .ok (.aload_n 0, 1) := by decide +kernel
theorem dX0_init_51 : decode cX0_init 51 = .ok (.sipush 500, 3) := by decide +kernel
theorem dX0_init_54 : decode cX0_init 54 = .ok (.newarray .int, 2) := by decide +kernel
theorem dX0_init_56 : decode cX0_init 56 = .ok (.putfield 28, 3) := by decide +kernel
theorem dX0_init_59 : decode cX0_init 59 = .ok (.aload_n 0, 1) := by decide +kernel
theorem dX0_init_60 : decode cX0_init 60 = .ok (.sipush 548, 3) := by decide +kernel
theorem dX0_init_63 : decode cX0_init 63 = .ok (.newarray .int, 2) := by decide +kernel
theorem dX0_init_65 : decode cX0_init 65 = .ok (.putfield 31, 3) := by decide +kernel
theorem dX0_init_68 : decode cX0_init 68 = .ok (.aload_n 0, 1) := by decide +kernel
theorem dX0_init_69 : decode cX0_init 69 = .ok (.bipush 100, 2) := by decide +kernel
theorem dX0_init_71 : decode cX0_init 71 = .ok (.putfield 34, 3) := by decide +kernel
theorem dX0_init_74 : decode cX0_init 74 = .ok (.iconst 0, 1) := by decide +kernel
theorem dX0_init_75 : decode cX0_init 75 = .ok (.istore_n 1, 1) := by decide +kernel
theorem dX0_init_76 : decode cX0_init 76 = .ok (.iload_n 1, 1) := by decide +kernel
theorem dX0_init_77 : decode cX0_init 77 = .ok (.bipush 24, 2) := by decide +kernel
theorem dX0_init_79 : decode cX0_init 79 = .ok (.if_icmp .ge 17, 3) := by decide +kernel
theorem dX0_init_82 : decode cX0_init 82 = .ok (.aload_n 0, 1) := by decide +kernel
theorem dX0_init_83 : decode cX0_init 83 = .ok (.getfield 13, 3) := by decide +kernel
theorem dX0_init_86 : decode cX0_init 86 = .ok (.iload_n 1, 1) := by decide +kernel
theorem dX0_init_87 : decode cX0_init 87 = .ok (.bipush 10, 2) := by decide +kernel
theorem dX0_init_89 : decode cX0_init 89 = .ok (.iastore, 1) := by decide +kernel
theorem dX0_init_90 : decode cX0_init 90 = .ok (.iinc 1 1, 3) := by decide +kernel
theorem dX0_init_93 : decode cX0_init 93 = .ok (.goto (-17), 3) := by decide +kernel
theorem dX0_init_96 : decode cX0_init 96 = .ok (.return_, 1) := by decide +kernel
set_option maxRecDepth 20000 in
theorem ggX0_tide_X0_requireIndex : GoodIn wsX0_tide wsX0_requireIndex := goodIn_ca (goodIn_r _ [5, 6, 7] (by decide +kernel) (by decide +kernel)) (goodIn_sub (fun _ h => List.mem_cons_of_mem _ (List.mem_append_left _ (List.mem_append_right _ h))) (by decide +kernel))
set_option maxRecDepth 20000 in
theorem gX0_tide_X0_requireIndex : GoodIn wsX0_tide (va_wsS RX0 38 yX0_requireIndex wsX0_requireIndex) := goodIn_app (goodIn_of _ (by decide +kernel)) ggX0_tide_X0_requireIndex
set_option maxRecDepth 20000 in
theorem ggX0_tide_X0_requireRange : GoodIn wsX0_tide wsX0_requireRange := goodIn_ca (goodIn_r _ [10, 11, 12] (by decide +kernel) (by decide +kernel)) (goodIn_sub (fun _ h => List.mem_cons_of_mem _ (List.mem_append_right _ h)) (by decide +kernel))
set_option maxRecDepth 20000 in
theorem gX0_tide_X0_requireRange : GoodIn wsX0_tide (va_wsS RX0 42 yX0_requireRange wsX0_requireRange) := goodIn_app (goodIn_of _ (by decide +kernel)) ggX0_tide_X0_requireRange
theorem dX0_tide_0 : decode cX0_tide 0 = .ok (.iload_n 1, 1) := by decide +kernel
theorem dX0_tide_1 : decode cX0_tide 1 = .ok (.iconst 0, 1) := by decide +kernel
theorem dX0_tide_2 : decode cX0_tide 2 = .ok (.bipush 23, 2) := by decide +kernel
theorem dX0_tide_4 : decode cX0_tide 4 = .ok (.invokestatic 38, 3) := by decide +kernel
theorem dX0_tide_7 : decode cX0_tide 7 = .ok (.iload_n 2, 1) := by decide +kernel
theorem dX0_tide_8 : decode cX0_tide 8 = .ok (.bipush (-100), 2) := by decide +kernel
theorem dX0_tide_10 : decode cX0_tide 10 = .ok (.bipush 100, 2) := by decide +kernel
theorem dX0_tide_12 : decode cX0_tide 12 = .ok (.invokestatic 42, 3) := by decide +kernel
theorem dX0_tide_15 : decode cX0_tide 15 = .ok (.aload_n 0, 1) := by decide +kernel
theorem dX0_tide_16 : decode cX0_tide 16 = .ok (.getfield 9, 3) := by decide +kernel
theorem dX0_tide_19 : decode cX0_tide 19 = .ok (.iload_n 1, 1) := by decide +kernel
theorem dX0_tide_20 : decode cX0_tide 20 = .ok (.iaload, 1) := by decide +kernel
theorem dX0_tide_21 : decode cX0_tide 21 = .ok (.istore_n 3, 1) := by decide +kernel
theorem dX0_tide_22 : decode cX0_tide 22 = .ok (.aload_n 0, 1) := by decide +kernel
theorem dX0_tide_23 : decode cX0_tide 23 = .ok (.getfield 9, 3) := by decide +kernel
theorem dX0_tide_26 : decode cX0_tide 26 = .ok (.iload_n 1, 1) := by decide +kernel
theorem dX0_tide_27 : decode cX0_tide 27 = .ok (.iload_n 2, 1) := by decide +kernel
theorem dX0_tide_28 : decode cX0_tide 28 = .ok (.iastore, 1) := by decide +kernel
theorem dX0_tide_29 : decode cX0_tide 29 = .ok (.iload_n 3, 1) := by decide +kernel
theorem dX0_tide_30 : decode cX0_tide 30 = .ok (.ireturn, 1) := by decide +kernel
set_option maxRecDepth 20000 in
theorem ggX0_price_X0_requireIndex : GoodIn wsX0_price wsX0_requireIndex := goodIn_ca (goodIn_r _ [5, 6, 7] (by decide +kernel) (by decide +kernel)) (goodIn_sub (fun _ h => List.mem_cons_of_mem _ (List.mem_append_left _ (List.mem_append_right _ h))) (by decide +kernel))
set_option maxRecDepth 20000 in
theorem gX0_price_X0_requireIndex : GoodIn wsX0_price (va_wsS RX0 38 yX0_requireIndex wsX0_requireIndex) := goodIn_app (goodIn_of _ (by decide +kernel)) ggX0_price_X0_requireIndex
set_option maxRecDepth 20000 in
theorem ggX0_price_X0_requireRange : GoodIn wsX0_price wsX0_requireRange := goodIn_ca (goodIn_r _ [10, 11, 12] (by decide +kernel) (by decide +kernel)) (goodIn_sub (fun _ h => List.mem_cons_of_mem _ (List.mem_append_right _ h)) (by decide +kernel))
set_option maxRecDepth 20000 in
theorem gX0_price_X0_requireRange : GoodIn wsX0_price (va_wsS RX0 42 yX0_requireRange wsX0_requireRange) := goodIn_app (goodIn_of _ (by decide +kernel)) ggX0_price_X0_requireRange
theorem dX0_price_0 : decode cX0_price 0 = .ok (.iload_n 1, 1) := by decide +kernel
theorem dX0_price_1 : decode cX0_price 1 = .ok (.iconst 0, 1) := by decide +kernel
theorem dX0_price_2 : decode cX0_price 2 = .ok (.bipush 23, 2) := by decide +kernel
theorem dX0_price_4 : decode cX0_price 4 = .ok (.invokestatic 38, 3) := by decide +kernel
theorem dX0_price_7 : decode cX0_price 7 = .ok (.iload_n 2, 1) := by decide +kernel
theorem dX0_price_8 : decode cX0_price 8 = .ok (.iconst 1, 1) := by decide +kernel
theorem dX0_price_9 : decode cX0_price 9 = .ok (.sipush 200, 3) := by decide +kernel
theorem dX0_price_12 : decode cX0_price 12 = .ok (.invokestatic 42, 3) := by decide +kernel
theorem dX0_price_15 : decode cX0_price 15 = .ok (.aload_n 0, 1) := by decide +kernel
theorem dX0_price_16 : decode cX0_price 16 = .ok (.getfield 13, 3) := by decide +kernel
theorem dX0_price_19 : decode cX0_price 19 = .ok (.iload_n 1, 1) := by decide +kernel
theorem dX0_price_20 : decode cX0_price 20 = .ok (.iaload, 1) := by decide +kernel
theorem dX0_price_21 : decode cX0_price 21 = .ok (.istore_n 3, 1) := by decide +kernel
theorem dX0_price_22 : decode cX0_price 22 = .ok (.aload_n 0, 1) := by decide +kernel
theorem dX0_price_23 : decode cX0_price 23 = .ok (.getfield 13, 3) := by decide +kernel
theorem dX0_price_26 : decode cX0_price 26 = .ok (.iload_n 1, 1) := by decide +kernel
theorem dX0_price_27 : decode cX0_price 27 = .ok (.iload_n 2, 1) := by decide +kernel
theorem dX0_price_28 : decode cX0_price 28 = .ok (.iastore, 1) := by decide +kernel
theorem dX0_price_29 : decode cX0_price 29 = .ok (.iload_n 3, 1) := by decide +kernel
theorem dX0_price_30 : decode cX0_price 30 = .ok (.ireturn, 1) := by decide +kernel
set_option maxRecDepth 20000 in
theorem ggX0_wind_X0_requireRange : GoodIn wsX0_wind wsX0_requireRange := goodIn_ca (goodIn_r _ [5, 6, 7] (by decide +kernel) (by decide +kernel)) (goodIn_sub (fun _ h => List.mem_cons_of_mem _ (List.mem_append_right _ h)) (by decide +kernel))
set_option maxRecDepth 20000 in
theorem gX0_wind_X0_requireRange : GoodIn wsX0_wind (va_wsS RX0 42 yX0_requireRange wsX0_requireRange) := goodIn_app (goodIn_of _ (by decide +kernel)) ggX0_wind_X0_requireRange
theorem dX0_wind_0 : decode cX0_wind 0 = .ok (.iload_n 1, 1) := by decide +kernel
theorem dX0_wind_1 : decode cX0_wind 1 = .ok (.bipush (-20), 2) := by decide +kernel
theorem dX0_wind_3 : decode cX0_wind 3 = .ok (.bipush 20, 2) := by decide +kernel
theorem dX0_wind_5 : decode cX0_wind 5 = .ok (.invokestatic 42, 3) := by decide +kernel
theorem dX0_wind_8 : decode cX0_wind 8 = .ok (.aload_n 0, 1) := by decide +kernel
theorem dX0_wind_9 : decode cX0_wind 9 = .ok (.getfield 45, 3) := by decide +kernel
theorem dX0_wind_12 : decode cX0_wind 12 = .ok (.istore_n 2, 1) := by decide +kernel
theorem dX0_wind_13 : decode cX0_wind 13 = .ok (.aload_n 0, 1) := by decide +kernel
theorem dX0_wind_14 : decode cX0_wind 14 = .ok (.iload_n 1, 1) := by decide +kernel
theorem dX0_wind_15 : decode cX0_wind 15 = .ok (.putfield 45, 3) := by decide +kernel
theorem dX0_wind_18 : decode cX0_wind 18 = .ok (.iload_n 2, 1) := by decide +kernel
theorem dX0_wind_19 : decode cX0_wind 19 = .ok (.ireturn, 1) := by decide +kernel
theorem dX0_turbine_0 : decode cX0_turbine 0 = .ok (.aload_n 0, 1) := by decide +kernel
theorem dX0_turbine_1 : decode cX0_turbine 1 = .ok (.getfield 48, 3) := by decide +kernel
theorem dX0_turbine_4 : decode cX0_turbine 4 = .ok (.iconst 4, 1) := by decide +kernel
theorem dX0_turbine_5 : decode cX0_turbine 5 = .ok (.if_icmp .lt 13, 3) := by decide +kernel
theorem dX0_turbine_8 : decode cX0_turbine 8 = .ok (.new 51, 3) := by decide +kernel
theorem dX0_turbine_11 : decode cX0_turbine 11 = .ok (.dup, 1) := by decide +kernel
theorem dX0_turbine_12 : decode cX0_turbine 12 = .ok (.ldc 53, 2) := by decide +kernel
theorem dX0_turbine_14 : decode cX0_turbine 14 = .ok (.invokespecial 55, 3) := by decide +kernel
theorem dX0_turbine_17 : decode cX0_turbine 17 = .ok (.athrow, 1) := by decide +kernel
theorem dX0_turbine_18 : decode cX0_turbine 18 = .ok (.aload_n 0, 1) := by decide +kernel
theorem dX0_turbine_19 : decode cX0_turbine 19 = .ok (.dup, 1) := by decide +kernel
theorem dX0_turbine_20 : decode cX0_turbine 20 = .ok (.getfield 48, 3) := by decide +kernel
theorem dX0_turbine_23 : decode cX0_turbine 23 = .ok (.iconst 1, 1) := by decide +kernel
theorem dX0_turbine_24 : decode cX0_turbine 24 = .ok (.iadd, 1) := by decide +kernel
theorem dX0_turbine_25 : decode cX0_turbine 25 = .ok (.putfield 48, 3) := by decide +kernel
theorem dX0_turbine_28 : decode cX0_turbine 28 = .ok (.aload_n 0, 1) := by decide +kernel
theorem dX0_turbine_29 : decode cX0_turbine 29 = .ok (.getfield 48, 3) := by decide +kernel
theorem dX0_turbine_32 : decode cX0_turbine 32 = .ok (.iconst 1, 1) := by decide +kernel
theorem dX0_turbine_33 : decode cX0_turbine 33 = .ok (.isub, 1) := by decide +kernel
theorem dX0_turbine_34 : decode cX0_turbine 34 = .ok (.ireturn, 1) := by decide +kernel
set_option maxRecDepth 20000 in
theorem ggX0_gate_X0_requireIndex : GoodIn wsX0_gate wsX0_requireIndex := goodIn_ca (goodIn_r _ [6, 7, 8] (by decide +kernel) (by decide +kernel)) (goodIn_sub (fun _ h => List.mem_cons_of_mem _ (List.mem_append_left _ (List.mem_append_right _ h))) (by decide +kernel))
set_option maxRecDepth 20000 in
theorem gX0_gate_X0_requireIndex : GoodIn wsX0_gate (va_wsS RX0 38 yX0_requireIndex wsX0_requireIndex) := goodIn_app (goodIn_of _ (by decide +kernel)) ggX0_gate_X0_requireIndex
set_option maxRecDepth 20000 in
theorem ggX0_gate_X0_requireRange : GoodIn wsX0_gate wsX0_requireRange := goodIn_ca (goodIn_r _ [11, 12, 13] (by decide +kernel) (by decide +kernel)) (goodIn_sub (fun _ h => List.mem_cons_of_mem _ (List.mem_append_right _ h)) (by decide +kernel))
set_option maxRecDepth 20000 in
theorem gX0_gate_X0_requireRange : GoodIn wsX0_gate (va_wsS RX0 42 yX0_requireRange wsX0_requireRange) := goodIn_app (goodIn_of _ (by decide +kernel)) ggX0_gate_X0_requireRange
theorem dX0_gate_0 : decode cX0_gate 0 = .ok (.iload_n 1, 1) := by decide +kernel
theorem dX0_gate_1 : decode cX0_gate 1 = .ok (.iconst 0, 1) := by decide +kernel
theorem dX0_gate_2 : decode cX0_gate 2 = .ok (.aload_n 0, 1) := by decide +kernel
theorem dX0_gate_3 : decode cX0_gate 3 = .ok (.getfield 48, 3) := by decide +kernel
theorem dX0_gate_6 : decode cX0_gate 6 = .ok (.iconst 1, 1) := by decide +kernel
theorem dX0_gate_7 : decode cX0_gate 7 = .ok (.isub, 1) := by decide +kernel
theorem dX0_gate_8 : decode cX0_gate 8 = .ok (.invokestatic 38, 3) := by decide +kernel
theorem dX0_gate_11 : decode cX0_gate 11 = .ok (.iload_n 2, 1) := by decide +kernel
theorem dX0_gate_12 : decode cX0_gate 12 = .ok (.iconst 0, 1) := by decide +kernel
theorem dX0_gate_13 : decode cX0_gate 13 = .ok (.bipush 7, 2) := by decide +kernel
theorem dX0_gate_15 : decode cX0_gate 15 = .ok (.invokestatic 42, 3) := by decide +kernel
theorem dX0_gate_18 : decode cX0_gate 18 = .ok (.aload_n 0, 1) := by decide +kernel
theorem dX0_gate_19 : decode cX0_gate 19 = .ok (.getfield 16, 3) := by decide +kernel
theorem dX0_gate_22 : decode cX0_gate 22 = .ok (.iload_n 1, 1) := by decide +kernel
theorem dX0_gate_23 : decode cX0_gate 23 = .ok (.iaload, 1) := by decide +kernel
theorem dX0_gate_24 : decode cX0_gate 24 = .ok (.istore_n 3, 1) := by decide +kernel
theorem dX0_gate_25 : decode cX0_gate 25 = .ok (.aload_n 0, 1) := by decide +kernel
theorem dX0_gate_26 : decode cX0_gate 26 = .ok (.getfield 16, 3) := by decide +kernel
theorem dX0_gate_29 : decode cX0_gate 29 = .ok (.iload_n 1, 1) := by decide +kernel
theorem dX0_gate_30 : decode cX0_gate 30 = .ok (.iload_n 2, 1) := by decide +kernel
theorem dX0_gate_31 : decode cX0_gate 31 = .ok (.iastore, 1) := by decide +kernel
theorem dX0_gate_32 : decode cX0_gate 32 = .ok (.iload_n 3, 1) := by decide +kernel
theorem dX0_gate_33 : decode cX0_gate 33 = .ok (.ireturn, 1) := by decide +kernel
set_option maxRecDepth 20000 in
theorem ggX0_repair_X0_requireIndex : GoodIn wsX0_repair wsX0_requireIndex := goodIn_ca (goodIn_r _ [8, 9, 10] (by decide +kernel) (by decide +kernel)) (goodIn_sub (fun _ h => List.mem_cons_of_mem _ (List.mem_append_right _ h)) (by decide +kernel))
set_option maxRecDepth 20000 in
theorem gX0_repair_X0_requireIndex : GoodIn wsX0_repair (va_wsS RX0 38 yX0_requireIndex wsX0_requireIndex) := goodIn_app (goodIn_of _ (by decide +kernel)) ggX0_repair_X0_requireIndex
theorem dX0_repair_0 : decode cX0_repair 0 = .ok (.iload_n 1, 1) := by decide +kernel
theorem dX0_repair_1 : decode cX0_repair 1 = .ok (.iconst 0, 1) := by decide +kernel
theorem dX0_repair_2 : decode cX0_repair 2 = .ok (.aload_n 0, 1) := by decide +kernel
theorem dX0_repair_3 : decode cX0_repair 3 = .ok (.getfield 48, 3) := by decide +kernel
theorem dX0_repair_6 : decode cX0_repair 6 = .ok (.iconst 1, 1) := by decide +kernel
theorem dX0_repair_7 : decode cX0_repair 7 = .ok (.isub, 1) := by decide +kernel
theorem dX0_repair_8 : decode cX0_repair 8 = .ok (.invokestatic 38, 3) := by decide +kernel
theorem dX0_repair_11 : decode cX0_repair 11 = .ok (.aload_n 0, 1) := by decide +kernel
theorem dX0_repair_12 : decode cX0_repair 12 = .ok (.getfield 19, 3) := by decide +kernel
theorem dX0_repair_15 : decode cX0_repair 15 = .ok (.iload_n 1, 1) := by decide +kernel
theorem dX0_repair_16 : decode cX0_repair 16 = .ok (.iaload, 1) := by decide +kernel
theorem dX0_repair_17 : decode cX0_repair 17 = .ok (.istore_n 2, 1) := by decide +kernel
theorem dX0_repair_18 : decode cX0_repair 18 = .ok (.aload_n 0, 1) := by decide +kernel
theorem dX0_repair_19 : decode cX0_repair 19 = .ok (.getfield 19, 3) := by decide +kernel
theorem dX0_repair_22 : decode cX0_repair 22 = .ok (.iload_n 1, 1) := by decide +kernel
theorem dX0_repair_23 : decode cX0_repair 23 = .ok (.iconst 0, 1) := by decide +kernel
theorem dX0_repair_24 : decode cX0_repair 24 = .ok (.iastore, 1) := by decide +kernel
theorem dX0_repair_25 : decode cX0_repair 25 = .ok (.aload_n 0, 1) := by decide +kernel
theorem dX0_repair_26 : decode cX0_repair 26 = .ok (.getfield 22, 3) := by decide +kernel
theorem dX0_repair_29 : decode cX0_repair 29 = .ok (.iload_n 1, 1) := by decide +kernel
theorem dX0_repair_30 : decode cX0_repair 30 = .ok (.aload_n 0, 1) := by decide +kernel
theorem dX0_repair_31 : decode cX0_repair 31 = .ok (.getfield 58, 3) := by decide +kernel
theorem dX0_repair_34 : decode cX0_repair 34 = .ok (.iconst 5, 1) := by decide +kernel
theorem dX0_repair_35 : decode cX0_repair 35 = .ok (.iadd, 1) := by decide +kernel
theorem dX0_repair_36 : decode cX0_repair 36 = .ok (.iastore, 1) := by decide +kernel
theorem dX0_repair_37 : decode cX0_repair 37 = .ok (.iload_n 2, 1) := by decide +kernel
theorem dX0_repair_38 : decode cX0_repair 38 = .ok (.ireturn, 1) := by decide +kernel
set_option maxRecDepth 20000 in
theorem ggX0_run_X0_requireRange : GoodIn wsX0_run wsX0_requireRange := goodIn_ca (goodIn_r _ [6, 7, 8] (by decide +kernel) (by decide +kernel)) (goodIn_sub (fun _ h => List.mem_cons_of_mem _ (List.mem_append_right _ h)) (by decide +kernel))
set_option maxRecDepth 20000 in
theorem gX0_run_X0_requireRange : GoodIn wsX0_run (va_wsS RX0 42 yX0_requireRange wsX0_requireRange) := goodIn_app (goodIn_of _ (by decide +kernel)) ggX0_run_X0_requireRange
theorem dX0_run_0 : decode cX0_run 0 = .ok (.iload_n 1, 1) := by decide +kernel
theorem dX0_run_1 : decode cX0_run 1 = .ok (.iconst 0, 1) := by decide +kernel
theorem dX0_run_2 : decode cX0_run 2 = .ok (.sipush 1000, 3) := by decide +kernel
theorem dX0_run_5 : decode cX0_run 5 = .ok (.invokestatic 42, 3) := by decide +kernel
theorem dX0_run_8 : decode cX0_run 8 = .ok (.aload_n 0, 1) := by decide +kernel
theorem dX0_run_9 : decode cX0_run 9 = .ok (.iload_n 1, 1) := by decide +kernel
theorem dX0_run_10 : decode cX0_run 10 = .ok (.putfield 61, 3) := by decide +kernel
theorem dX0_run_13 : decode cX0_run 13 = .ok (.iload_n 1, 1) := by decide +kernel
theorem dX0_run_14 : decode cX0_run 14 = .ok (.aload_n 0, 1) := by decide +kernel
theorem dX0_run_15 : decode cX0_run 15 = .ok (.getfield 34, 3) := by decide +kernel
theorem dX0_run_18 : decode cX0_run 18 = .ok (.if_icmp .le 7, 3) := by decide +kernel
theorem dX0_run_21 : decode cX0_run 21 = .ok (.iconst 1, 1) := by decide +kernel
theorem dX0_run_22 : decode cX0_run 22 = .ok (.goto 4, 3) := by decide +kernel
theorem dX0_run_25 : decode cX0_run 25 = .ok (.iconst 0, 1) := by decide +kernel
theorem dX0_run_26 : decode cX0_run 26 = .ok (.ireturn, 1) := by decide +kernel
set_option maxRecDepth 20000 in
theorem ggX0_limit_X0_requireRange : GoodIn wsX0_limit wsX0_requireRange := goodIn_ca (goodIn_r _ [5, 6, 7] (by decide +kernel) (by decide +kernel)) (goodIn_sub (fun _ h => List.mem_cons_of_mem _ (List.mem_append_right _ h)) (by decide +kernel))
set_option maxRecDepth 20000 in
theorem gX0_limit_X0_requireRange : GoodIn wsX0_limit (va_wsS RX0 42 yX0_requireRange wsX0_requireRange) := goodIn_app (goodIn_of _ (by decide +kernel)) ggX0_limit_X0_requireRange
theorem dX0_limit_0 : decode cX0_limit 0 = .ok (.iload_n 1, 1) := by decide +kernel
theorem dX0_limit_1 : decode cX0_limit 1 = .ok (.iconst 0, 1) := by decide +kernel
theorem dX0_limit_2 : decode cX0_limit 2 = .ok (.sipush 1000, 3) := by decide +kernel
theorem dX0_limit_5 : decode cX0_limit 5 = .ok (.invokestatic 42, 3) := by decide +kernel
theorem dX0_limit_8 : decode cX0_limit 8 = .ok (.aload_n 0, 1) := by decide +kernel
theorem dX0_limit_9 : decode cX0_limit 9 = .ok (.getfield 34, 3) := by decide +kernel
theorem dX0_limit_12 : decode cX0_limit 12 = .ok (.istore_n 2, 1) := by decide +kernel
theorem dX0_limit_13 : decode cX0_limit 13 = .ok (.aload_n 0, 1) := by decide +kernel
theorem dX0_limit_14 : decode cX0_limit 14 = .ok (.iload_n 1, 1) := by decide +kernel
theorem dX0_limit_15 : decode cX0_limit 15 = .ok (.putfield 34, 3) := by decide +kernel
theorem dX0_limit_18 : decode cX0_limit 18 = .ok (.iload_n 2, 1) := by decide +kernel
theorem dX0_limit_19 : decode cX0_limit 19 = .ok (.ireturn, 1) := by decide +kernel
set_option maxRecDepth 20000 in
theorem ggX0_sell_X0_requireIndex : GoodIn wsX0_sell wsX0_requireIndex := goodIn_ca (goodIn_r _ [9, 10, 11] (by decide +kernel) (by decide +kernel)) (goodIn_sub (fun _ h => List.mem_cons_of_mem _ (List.mem_append_left _ (List.mem_append_right _ h))) (by decide +kernel))
set_option maxRecDepth 20000 in
theorem gX0_sell_X0_requireIndex : GoodIn wsX0_sell (va_wsS RX0 38 yX0_requireIndex wsX0_requireIndex) := goodIn_app (goodIn_of _ (by decide +kernel)) ggX0_sell_X0_requireIndex
set_option maxRecDepth 20000 in
theorem ggX0_sell_X0_requireRange : GoodIn wsX0_sell wsX0_requireRange := goodIn_ca (goodIn_r _ [14, 15, 16] (by decide +kernel) (by decide +kernel)) (goodIn_sub (fun _ h => List.mem_cons_of_mem _ (List.mem_append_right _ h)) (by decide +kernel))
set_option maxRecDepth 20000 in
theorem gX0_sell_X0_requireRange : GoodIn wsX0_sell (va_wsS RX0 42 yX0_requireRange wsX0_requireRange) := goodIn_app (goodIn_of _ (by decide +kernel)) ggX0_sell_X0_requireRange
set_option maxRecDepth 20000 in
theorem ggX0_sell_X0_worth : GoodIn wsX0_sell wsX0_worth := goodIn_r _ [19] (by decide +kernel) (by decide +kernel)
set_option maxRecDepth 20000 in
theorem gX0_sell_X0_worth : GoodIn wsX0_sell (va_wsS RX0 70 yX0_worth wsX0_worth) := goodIn_app (goodIn_of _ (by decide +kernel)) ggX0_sell_X0_worth
theorem dX0_sell_0 : decode cX0_sell 0 = .ok (.iload_n 1, 1) := by decide +kernel
theorem dX0_sell_1 : decode cX0_sell 1 = .ok (.aload_n 0, 1) := by decide +kernel
theorem dX0_sell_2 : decode cX0_sell 2 = .ok (.getfield 58, 3) := by decide +kernel
theorem dX0_sell_5 : decode cX0_sell 5 = .ok (.aload_n 0, 1) := by decide +kernel
theorem dX0_sell_6 : decode cX0_sell 6 = .ok (.getfield 58, 3) := by decide +kernel
theorem dX0_sell_9 : decode cX0_sell 9 = .ok (.bipush 47, 2) := by decide +kernel
theorem dX0_sell_11 : decode cX0_sell 11 = .ok (.iadd, 1) := by decide +kernel
theorem dX0_sell_12 : decode cX0_sell 12 = .ok (.invokestatic 38, 3) := by decide +kernel
theorem dX0_sell_15 : decode cX0_sell 15 = .ok (.iload_n 2, 1) := by decide +kernel
theorem dX0_sell_16 : decode cX0_sell 16 = .ok (.iconst 1, 1) := by decide +kernel
theorem dX0_sell_17 : decode cX0_sell 17 = .ok (.sipush 500, 3) := by decide +kernel
theorem dX0_sell_20 : decode cX0_sell 20 = .ok (.invokestatic 42, 3) := by decide +kernel
theorem dX0_sell_23 : decode cX0_sell 23 = .ok (.iload_n 3, 1) := by decide +kernel
theorem dX0_sell_24 : decode cX0_sell 24 = .ok (.iconst 1, 1) := by decide +kernel
theorem dX0_sell_25 : decode cX0_sell 25 = .ok (.sipush 200, 3) := by decide +kernel
theorem dX0_sell_28 : decode cX0_sell 28 = .ok (.invokestatic 42, 3) := by decide +kernel
theorem dX0_sell_31 : decode cX0_sell 31 = .ok (.aload_n 0, 1) := by decide +kernel
theorem dX0_sell_32 : decode cX0_sell 32 = .ok (.getfield 31, 3) := by decide +kernel
theorem dX0_sell_35 : decode cX0_sell 35 = .ok (.iload_n 1, 1) := by decide +kernel
theorem dX0_sell_36 : decode cX0_sell 36 = .ok (.iaload, 1) := by decide +kernel
theorem dX0_sell_37 : decode cX0_sell 37 = .ok (.iload_n 2, 1) := by decide +kernel
theorem dX0_sell_38 : decode cX0_sell 38 = .ok (.iadd, 1) := by decide +kernel
theorem dX0_sell_39 : decode cX0_sell 39 = .ok (.sipush 1000, 3) := by decide +kernel
theorem dX0_sell_42 : decode cX0_sell 42 = .ok (.if_icmp .le 13, 3) := by decide +kernel
theorem dX0_sell_45 : decode cX0_sell 45 = .ok (.new 51, 3) := by decide +kernel
theorem dX0_sell_48 : decode cX0_sell 48 = .ok (.dup, 1) := by decide +kernel
theorem dX0_sell_49 : decode cX0_sell 49 = .ok (.ldc 64, 2) := by decide +kernel
theorem dX0_sell_51 : decode cX0_sell 51 = .ok (.invokespecial 55, 3) := by decide +kernel
theorem dX0_sell_54 : decode cX0_sell 54 = .ok (.athrow, 1) := by decide +kernel
theorem dX0_sell_55 : decode cX0_sell 55 = .ok (.aload_n 0, 1) := by decide +kernel
theorem dX0_sell_56 : decode cX0_sell 56 = .ok (.getfield 31, 3) := by decide +kernel
theorem dX0_sell_59 : decode cX0_sell 59 = .ok (.iload_n 1, 1) := by decide +kernel
theorem dX0_sell_60 : decode cX0_sell 60 = .ok (.dup2, 1) := by decide +kernel
theorem dX0_sell_61 : decode cX0_sell 61 = .ok (.iaload, 1) := by decide +kernel
theorem dX0_sell_62 : decode cX0_sell 62 = .ok (.iload_n 2, 1) := by decide +kernel
theorem dX0_sell_63 : decode cX0_sell 63 = .ok (.iadd, 1) := by decide +kernel
theorem dX0_sell_64 : decode cX0_sell 64 = .ok (.iastore, 1) := by decide +kernel
theorem dX0_sell_65 : decode cX0_sell 65 = .ok (.aload_n 0, 1) := by decide +kernel
theorem dX0_sell_66 : decode cX0_sell 66 = .ok (.aload_n 0, 1) := by decide +kernel
theorem dX0_sell_67 : decode cX0_sell 67 = .ok (.getfield 66, 3) := by decide +kernel
theorem dX0_sell_70 : decode cX0_sell 70 = .ok (.iload_n 2, 1) := by decide +kernel
theorem dX0_sell_71 : decode cX0_sell 71 = .ok (.iload_n 3, 1) := by decide +kernel
theorem dX0_sell_72 : decode cX0_sell 72 = .ok (.invokestatic 70, 3) := by decide +kernel
theorem dX0_sell_75 : decode cX0_sell 75 = .ok (.fadd, 1) := by decide +kernel
theorem dX0_sell_76 : decode cX0_sell 76 = .ok (.putfield 66, 3) := by decide +kernel
theorem dX0_sell_79 : decode cX0_sell 79 = .ok (.aload_n 0, 1) := by decide +kernel
theorem dX0_sell_80 : decode cX0_sell 80 = .ok (.getfield 31, 3) := by decide +kernel
theorem dX0_sell_83 : decode cX0_sell 83 = .ok (.iload_n 1, 1) := by decide +kernel
theorem dX0_sell_84 : decode cX0_sell 84 = .ok (.iaload, 1) := by decide +kernel
theorem dX0_sell_85 : decode cX0_sell 85 = .ok (.ireturn, 1) := by decide +kernel
set_option maxRecDepth 20000 in
theorem ggX0_pass_X0_requireRange : GoodIn wsX0_pass wsX0_requireRange := goodIn_ca (goodIn_r _ [7, 8, 9] (by decide +kernel) (by decide +kernel)) (goodIn_sub (fun _ h => List.mem_cons_of_mem _ (List.mem_append_right _ h)) (by decide +kernel))
set_option maxRecDepth 20000 in
theorem gX0_pass_X0_requireRange : GoodIn wsX0_pass (va_wsS RX0 42 yX0_requireRange wsX0_requireRange) := goodIn_app (goodIn_of _ (by decide +kernel)) ggX0_pass_X0_requireRange
set_option maxRecDepth 20000 in
theorem ggX0_pass_X0_goBy : GoodIn wsX0_pass wsX0_goBy := goodIn_r _ [13, 14, 15, 16, 17, 3, 18, 19, 20, 6, 21, 22, 23, 24, 25, 26, 27, 28, 29, 30, 31, 32, 33, 34, 35, 36, 37, 38, 39, 40, 41, 42, 43, 44, 45, 46, 47, 48, 49, 50, 51, 52, 53, 54, 55, 56, 57, 58, 59, 60, 61, 62, 63, 64, 65, 66, 67, 68, 69, 70, 71, 72, 73, 74, 75, 76, 77, 78, 79, 80, 81] (by decide +kernel) (by decide +kernel)
set_option maxRecDepth 20000 in
theorem gX0_pass_X0_goBy : GoodIn wsX0_pass (wsV RX0 76 RX0 yX0_goBy wsX0_goBy) := goodIn_app (goodIn_of _ (by decide +kernel)) ggX0_pass_X0_goBy
theorem dX0_pass_0 : decode cX0_pass 0 = .ok (.iload_n 1, 1) := by decide +kernel
theorem dX0_pass_1 : decode cX0_pass 1 = .ok (.iconst 1, 1) := by decide +kernel
theorem dX0_pass_2 : decode cX0_pass 2 = .ok (.bipush 48, 2) := by decide +kernel
theorem dX0_pass_4 : decode cX0_pass 4 = .ok (.invokestatic 42, 3) := by decide +kernel
theorem dX0_pass_7 : decode cX0_pass 7 = .ok (.aload_n 0, 1) := by decide +kernel
theorem dX0_pass_8 : decode cX0_pass 8 = .ok (.getfield 58, 3) := by decide +kernel
theorem dX0_pass_11 : decode cX0_pass 11 = .ok (.iload_n 1, 1) := by decide +kernel
theorem dX0_pass_12 : decode cX0_pass 12 = .ok (.iadd, 1) := by decide +kernel
theorem dX0_pass_13 : decode cX0_pass 13 = .ok (.istore_n 2, 1) := by decide +kernel
theorem dX0_pass_14 : decode cX0_pass 14 = .ok (.iload_n 2, 1) := by decide +kernel
theorem dX0_pass_15 : decode cX0_pass 15 = .ok (.sipush 500, 3) := by decide +kernel
theorem dX0_pass_18 : decode cX0_pass 18 = .ok (.if_icmp .le 13, 3) := by decide +kernel
theorem dX0_pass_21 : decode cX0_pass 21 = .ok (.new 51, 3) := by decide +kernel
theorem dX0_pass_24 : decode cX0_pass 24 = .ok (.dup, 1) := by decide +kernel
theorem dX0_pass_25 : decode cX0_pass 25 = .ok (.ldc 74, 2) := by decide +kernel
theorem dX0_pass_27 : decode cX0_pass 27 = .ok (.invokespecial 55, 3) := by decide +kernel
theorem dX0_pass_30 : decode cX0_pass 30 = .ok (.athrow, 1) := by decide +kernel
theorem dX0_pass_31 : decode cX0_pass 31 = .ok (.aload_n 0, 1) := by decide +kernel
theorem dX0_pass_32 : decode cX0_pass 32 = .ok (.getfield 58, 3) := by decide +kernel
theorem dX0_pass_35 : decode cX0_pass 35 = .ok (.istore_n 3, 1) := by decide +kernel
theorem dX0_pass_36 : decode cX0_pass 36 = .ok (.iload_n 3, 1) := by decide +kernel
theorem dX0_pass_37 : decode cX0_pass 37 = .ok (.iload_n 2, 1) := by decide +kernel
theorem dX0_pass_38 : decode cX0_pass 38 = .ok (.if_icmp .ge 14, 3) := by decide +kernel
theorem dX0_pass_41 : decode cX0_pass 41 = .ok (.aload_n 0, 1) := by decide +kernel
theorem dX0_pass_42 : decode cX0_pass 42 = .ok (.iload_n 3, 1) := by decide +kernel
theorem dX0_pass_43 : decode cX0_pass 43 = .ok (.invokevirtual 76, 3) := by decide +kernel
theorem dX0_pass_46 : decode cX0_pass 46 = .ok (.iinc 3 1, 3) := by decide +kernel
theorem dX0_pass_49 : decode cX0_pass 49 = .ok (.goto (-13), 3) := by decide +kernel
theorem dX0_pass_52 : decode cX0_pass 52 = .ok (.aload_n 0, 1) := by decide +kernel
theorem dX0_pass_53 : decode cX0_pass 53 = .ok (.getfield 58, 3) := by decide +kernel
theorem dX0_pass_56 : decode cX0_pass 56 = .ok (.ireturn, 1) := by decide +kernel
theorem dX0_now_0 : decode cX0_now 0 = .ok (.aload_n 0, 1) := by decide +kernel
theorem dX0_now_1 : decode cX0_now 1 = .ok (.getfield 58, 3) := by decide +kernel
theorem dX0_now_4 : decode cX0_now 4 = .ok (.ireturn, 1) := by decide +kernel
set_option maxRecDepth 20000 in
theorem ggX0_made_X0_requireIndex : GoodIn wsX0_made wsX0_requireIndex := goodIn_ca (goodIn_r _ [6, 7, 8] (by decide +kernel) (by decide +kernel)) (goodIn_sub (fun _ h => List.mem_cons_of_mem _ (List.mem_append_right _ h)) (by decide +kernel))
set_option maxRecDepth 20000 in
theorem gX0_made_X0_requireIndex : GoodIn wsX0_made (va_wsS RX0 38 yX0_requireIndex wsX0_requireIndex) := goodIn_app (goodIn_of _ (by decide +kernel)) ggX0_made_X0_requireIndex
theorem dX0_made_0 : decode cX0_made 0 = .ok (.iload_n 1, 1) := by decide +kernel
theorem dX0_made_1 : decode cX0_made 1 = .ok (.iconst 0, 1) := by decide +kernel
theorem dX0_made_2 : decode cX0_made 2 = .ok (.aload_n 0, 1) := by decide +kernel
theorem dX0_made_3 : decode cX0_made 3 = .ok (.getfield 58, 3) := by decide +kernel
theorem dX0_made_6 : decode cX0_made 6 = .ok (.iconst 1, 1) := by decide +kernel
theorem dX0_made_7 : decode cX0_made 7 = .ok (.isub, 1) := by decide +kernel
theorem dX0_made_8 : decode cX0_made 8 = .ok (.invokestatic 38, 3) := by decide +kernel
theorem dX0_made_11 : decode cX0_made 11 = .ok (.aload_n 0, 1) := by decide +kernel
theorem dX0_made_12 : decode cX0_made 12 = .ok (.getfield 28, 3) := by decide +kernel
theorem dX0_made_15 : decode cX0_made 15 = .ok (.iload_n 1, 1) := by decide +kernel
theorem dX0_made_16 : decode cX0_made 16 = .ok (.iaload, 1) := by decide +kernel
theorem dX0_made_17 : decode cX0_made 17 = .ok (.ireturn, 1) := by decide +kernel
set_option maxRecDepth 20000 in
theorem ggX0_madeAnew_X0_requireIndex : GoodIn wsX0_madeAnew wsX0_requireIndex := goodIn_ca (goodIn_r _ [5, 6, 7] (by decide +kernel) (by decide +kernel)) (goodIn_sub (fun _ h => List.mem_cons_of_mem _ (List.mem_append_right _ h)) (by decide +kernel))
set_option maxRecDepth 20000 in
theorem gX0_madeAnew_X0_requireIndex : GoodIn wsX0_madeAnew (va_wsS RX0 38 yX0_requireIndex wsX0_requireIndex) := goodIn_app (goodIn_of _ (by decide +kernel)) ggX0_madeAnew_X0_requireIndex
set_option maxRecDepth 20000 in
theorem ggX0_madeAnew_X0_unitsFromNotes : GoodIn wsX0_madeAnew wsX0_unitsFromNotes := goodIn_r _ [11, 12, 13, 14, 4, 15, 16, 17, 18, 19, 20, 21, 22, 23, 24, 25, 26, 27, 28, 29, 30, 31, 32, 33, 34, 35, 36, 37, 38, 39, 40, 41, 42, 43, 44, 45, 46, 47, 48, 49, 50, 51, 52] (by decide +kernel) (by decide +kernel)
set_option maxRecDepth 20000 in
theorem gX0_madeAnew_X0_unitsFromNotes : GoodIn wsX0_madeAnew (wsV RX0 80 RX0 yX0_unitsFromNotes wsX0_unitsFromNotes) := goodIn_app (goodIn_of _ (by decide +kernel)) ggX0_madeAnew_X0_unitsFromNotes
theorem dX0_madeAnew_0 : decode cX0_madeAnew 0 = .ok (.iload_n 1, 1) := by decide +kernel
theorem dX0_madeAnew_1 : decode cX0_madeAnew 1 = .ok (.iconst 0, 1) := by decide +kernel
theorem dX0_madeAnew_2 : decode cX0_madeAnew 2 = .ok (.aload_n 0, 1) := by decide +kernel
theorem dX0_madeAnew_3 : decode cX0_madeAnew 3 = .ok (.getfield 58, 3) := by decide +kernel
theorem dX0_madeAnew_6 : decode cX0_madeAnew 6 = .ok (.iconst 1, 1) := by decide +kernel
theorem dX0_madeAnew_7 : decode cX0_madeAnew 7 = .ok (.isub, 1) := by decide +kernel
theorem dX0_madeAnew_8 : decode cX0_madeAnew 8 = .ok (.invokestatic 38, 3) := by decide +kernel
theorem dX0_madeAnew_11 : decode cX0_madeAnew 11 = .ok (.iconst 0, 1) := by decide +kernel
theorem dX0_madeAnew_12 : decode cX0_madeAnew 12 = .ok (.istore_n 2, 1) := by decide +kernel
theorem dX0_madeAnew_13 : decode cX0_madeAnew 13 = .ok (.iconst 0, 1) := by decide +kernel
theorem dX0_madeAnew_14 : decode cX0_madeAnew 14 = .ok (.istore_n 3, 1) := by decide +kernel
theorem dX0_madeAnew_15 : decode cX0_madeAnew 15 = .ok (.iload_n 3, 1) := by decide +kernel
theorem dX0_madeAnew_16 : decode cX0_madeAnew 16 = .ok (.iconst 4, 1) := by decide +kernel
theorem dX0_madeAnew_17 : decode cX0_madeAnew 17 = .ok (.if_icmp .ge 18, 3) := by decide +kernel
theorem dX0_madeAnew_20 : decode cX0_madeAnew 20 = .ok (.iload_n 2, 1) := by decide +kernel
theorem dX0_madeAnew_21 : decode cX0_madeAnew 21 = .ok (.aload_n 0, 1) := by decide +kernel
theorem dX0_madeAnew_22 : decode cX0_madeAnew 22 = .ok (.iload_n 3, 1) := by decide +kernel
theorem dX0_madeAnew_23 : decode cX0_madeAnew 23 = .ok (.iload_n 1, 1) := by decide +kernel
theorem dX0_madeAnew_24 : decode cX0_madeAnew 24 = .ok (.invokevirtual 80, 3) := by decide +kernel
theorem dX0_madeAnew_27 : decode cX0_madeAnew 27 = .ok (.iadd, 1) := by decide +kernel
theorem dX0_madeAnew_28 : decode cX0_madeAnew 28 = .ok (.istore_n 2, 1) := by decide +kernel
theorem dX0_madeAnew_29 : decode cX0_madeAnew 29 = .ok (.iinc 3 1, 3) := by decide +kernel
theorem dX0_madeAnew_32 : decode cX0_madeAnew 32 = .ok (.goto (-17), 3) := by decide +kernel
theorem dX0_madeAnew_35 : decode cX0_madeAnew 35 = .ok (.iload_n 2, 1) := by decide +kernel
theorem dX0_madeAnew_36 : decode cX0_madeAnew 36 = .ok (.ireturn, 1) := by decide +kernel
set_option maxRecDepth 20000 in
theorem ggX0_sold_X0_requireIndex : GoodIn wsX0_sold wsX0_requireIndex := goodIn_ca (goodIn_r _ [6, 7, 8] (by decide +kernel) (by decide +kernel)) (goodIn_sub (fun _ h => List.mem_cons_of_mem _ (List.mem_append_right _ h)) (by decide +kernel))
set_option maxRecDepth 20000 in
theorem gX0_sold_X0_requireIndex : GoodIn wsX0_sold (va_wsS RX0 38 yX0_requireIndex wsX0_requireIndex) := goodIn_app (goodIn_of _ (by decide +kernel)) ggX0_sold_X0_requireIndex
theorem dX0_sold_0 : decode cX0_sold 0 = .ok (.iload_n 1, 1) := by decide +kernel
theorem dX0_sold_1 : decode cX0_sold 1 = .ok (.iconst 0, 1) := by decide +kernel
theorem dX0_sold_2 : decode cX0_sold 2 = .ok (.aload_n 0, 1) := by decide +kernel
theorem dX0_sold_3 : decode cX0_sold 3 = .ok (.getfield 58, 3) := by decide +kernel
theorem dX0_sold_6 : decode cX0_sold 6 = .ok (.bipush 47, 2) := by decide +kernel
theorem dX0_sold_8 : decode cX0_sold 8 = .ok (.iadd, 1) := by decide +kernel
theorem dX0_sold_9 : decode cX0_sold 9 = .ok (.invokestatic 38, 3) := by decide +kernel
theorem dX0_sold_12 : decode cX0_sold 12 = .ok (.aload_n 0, 1) := by decide +kernel
theorem dX0_sold_13 : decode cX0_sold 13 = .ok (.getfield 31, 3) := by decide +kernel
theorem dX0_sold_16 : decode cX0_sold 16 = .ok (.iload_n 1, 1) := by decide +kernel
theorem dX0_sold_17 : decode cX0_sold 17 = .ok (.iaload, 1) := by decide +kernel
theorem dX0_sold_18 : decode cX0_sold 18 = .ok (.ireturn, 1) := by decide +kernel
set_option maxRecDepth 20000 in
theorem ggX0_bought_X0_requireIndex : GoodIn wsX0_bought wsX0_requireIndex := goodIn_ca (goodIn_r _ [11, 12, 13] (by decide +kernel) (by decide +kernel)) (goodIn_sub (fun _ h => List.mem_cons_of_mem _ (List.mem_append_right _ h)) (by decide +kernel))
set_option maxRecDepth 20000 in
theorem gX0_bought_X0_requireIndex : GoodIn wsX0_bought (va_wsS RX0 38 yX0_requireIndex wsX0_requireIndex) := goodIn_app (goodIn_of _ (by decide +kernel)) ggX0_bought_X0_requireIndex
theorem dX0_bought_0 : decode cX0_bought 0 = .ok (.iload_n 1, 1) := by decide +kernel
theorem dX0_bought_1 : decode cX0_bought 1 = .ok (.iconst 0, 1) := by decide +kernel
theorem dX0_bought_2 : decode cX0_bought 2 = .ok (.aload_n 0, 1) := by decide +kernel
theorem dX0_bought_3 : decode cX0_bought 3 = .ok (.getfield 58, 3) := by decide +kernel
theorem dX0_bought_6 : decode cX0_bought 6 = .ok (.iconst 1, 1) := by decide +kernel
theorem dX0_bought_7 : decode cX0_bought 7 = .ok (.isub, 1) := by decide +kernel
theorem dX0_bought_8 : decode cX0_bought 8 = .ok (.invokestatic 38, 3) := by decide +kernel
theorem dX0_bought_11 : decode cX0_bought 11 = .ok (.iconst 0, 1) := by decide +kernel
theorem dX0_bought_12 : decode cX0_bought 12 = .ok (.aload_n 0, 1) := by decide +kernel
theorem dX0_bought_13 : decode cX0_bought 13 = .ok (.getfield 31, 3) := by decide +kernel
theorem dX0_bought_16 : decode cX0_bought 16 = .ok (.iload_n 1, 1) := by decide +kernel
theorem dX0_bought_17 : decode cX0_bought 17 = .ok (.iaload, 1) := by decide +kernel
theorem dX0_bought_18 : decode cX0_bought 18 = .ok (.aload_n 0, 1) := by decide +kernel
theorem dX0_bought_19 : decode cX0_bought 19 = .ok (.getfield 28, 3) := by decide +kernel
theorem dX0_bought_22 : decode cX0_bought 22 = .ok (.iload_n 1, 1) := by decide +kernel
theorem dX0_bought_23 : decode cX0_bought 23 = .ok (.iaload, 1) := by decide +kernel
theorem dX0_bought_24 : decode cX0_bought 24 = .ok (.isub, 1) := by decide +kernel
theorem dX0_bought_25 : decode cX0_bought 25 = .ok (.invokestatic 84, 3) := by decide +kernel
theorem dX0_bought_28 : decode cX0_bought 28 = .ok (.ireturn, 1) := by decide +kernel
set_option maxRecDepth 20000 in
theorem ggX0_head_X0_requireIndex : GoodIn wsX0_head wsX0_requireIndex := goodIn_ca (goodIn_r _ [6, 7, 8] (by decide +kernel) (by decide +kernel)) (goodIn_sub (fun _ h => List.mem_cons_of_mem _ (List.mem_append_right _ h)) (by decide +kernel))
set_option maxRecDepth 20000 in
theorem gX0_head_X0_requireIndex : GoodIn wsX0_head (va_wsS RX0 38 yX0_requireIndex wsX0_requireIndex) := goodIn_app (goodIn_of _ (by decide +kernel)) ggX0_head_X0_requireIndex
set_option maxRecDepth 20000 in
theorem ggX0_head_X0_notedHead : GoodIn wsX0_head wsX0_notedHead := goodIn_r _ [11] (by decide +kernel) (by decide +kernel)
set_option maxRecDepth 20000 in
theorem gX0_head_X0_notedHead : GoodIn wsX0_head (va_wsS RX0 89 yX0_notedHead wsX0_notedHead) := goodIn_app (goodIn_of _ (by decide +kernel)) ggX0_head_X0_notedHead
theorem dX0_head_0 : decode cX0_head 0 = .ok (.iload_n 1, 1) := by decide +kernel
theorem dX0_head_1 : decode cX0_head 1 = .ok (.iconst 0, 1) := by decide +kernel
theorem dX0_head_2 : decode cX0_head 2 = .ok (.aload_n 0, 1) := by decide +kernel
theorem dX0_head_3 : decode cX0_head 3 = .ok (.getfield 58, 3) := by decide +kernel
theorem dX0_head_6 : decode cX0_head 6 = .ok (.iconst 1, 1) := by decide +kernel
theorem dX0_head_7 : decode cX0_head 7 = .ok (.isub, 1) := by decide +kernel
theorem dX0_head_8 : decode cX0_head 8 = .ok (.invokestatic 38, 3) := by decide +kernel
theorem dX0_head_11 : decode cX0_head 11 = .ok (.aload_n 0, 1) := by decide +kernel
theorem dX0_head_12 : decode cX0_head 12 = .ok (.getfield 25, 3) := by decide +kernel
theorem dX0_head_15 : decode cX0_head 15 = .ok (.iload_n 1, 1) := by decide +kernel
theorem dX0_head_16 : decode cX0_head 16 = .ok (.iaload, 1) := by decide +kernel
theorem dX0_head_17 : decode cX0_head 17 = .ok (.invokestatic 89, 3) := by decide +kernel
theorem dX0_head_20 : decode cX0_head 20 = .ok (.ireturn, 1) := by decide +kernel
set_option maxRecDepth 20000 in
theorem ggX0_about_X0_requireIndex : GoodIn wsX0_about wsX0_requireIndex := goodIn_ca (goodIn_r _ [13, 14, 15] (by decide +kernel) (by decide +kernel)) (goodIn_sub (fun _ h => List.mem_cons_of_mem _ (List.mem_append_left _ (List.mem_append_right _ h))) (by decide +kernel))
set_option maxRecDepth 20000 in
theorem gX0_about_X0_requireIndex : GoodIn wsX0_about (va_wsS RX0 38 yX0_requireIndex wsX0_requireIndex) := goodIn_app (goodIn_of _ (by decide +kernel)) ggX0_about_X0_requireIndex
set_option maxRecDepth 20000 in
theorem ggX0_about_X0_requireRange : GoodIn wsX0_about wsX0_requireRange := goodIn_ca (goodIn_r _ [18, 19, 20] (by decide +kernel) (by decide +kernel)) (goodIn_sub (fun _ h => List.mem_cons_of_mem _ (List.mem_append_right _ h)) (by decide +kernel))
set_option maxRecDepth 20000 in
theorem gX0_about_X0_requireRange : GoodIn wsX0_about (va_wsS RX0 42 yX0_requireRange wsX0_requireRange) := goodIn_app (goodIn_of _ (by decide +kernel)) ggX0_about_X0_requireRange
theorem dX0_about_0 : decode cX0_about 0 = .ok (.iload_n 1, 1) := by decide +kernel
theorem dX0_about_1 : decode cX0_about 1 = .ok (.iconst 0, 1) := by decide +kernel
theorem dX0_about_2 : decode cX0_about 2 = .ok (.aload_n 0, 1) := by decide +kernel
theorem dX0_about_3 : decode cX0_about 3 = .ok (.getfield 48, 3) := by decide +kernel
theorem dX0_about_6 : decode cX0_about 6 = .ok (.iconst 1, 1) := by decide +kernel
theorem dX0_about_7 : decode cX0_about 7 = .ok (.isub, 1) := by decide +kernel
theorem dX0_about_8 : decode cX0_about 8 = .ok (.invokestatic 38, 3) := by decide +kernel
theorem dX0_about_11 : decode cX0_about 11 = .ok (.iload_n 2, 1) := by decide +kernel
theorem dX0_about_12 : decode cX0_about 12 = .ok (.iconst 0, 1) := by decide +kernel
theorem dX0_about_13 : decode cX0_about 13 = .ok (.iconst 2, 1) := by decide +kernel
theorem dX0_about_14 : decode cX0_about 14 = .ok (.invokestatic 42, 3) := by decide +kernel
theorem dX0_about_17 : decode cX0_about 17 = .ok (.iload_n 2, 1) := by decide +kernel
theorem dX0_about_18 : decode cX0_about 18 = .ok (.ifCond .ne 10, 3) := by decide +kernel
theorem dX0_about_21 : decode cX0_about 21 = .ok (.aload_n 0, 1) := by decide +kernel
theorem dX0_about_22 : decode cX0_about 22 = .ok (.getfield 16, 3) := by decide +kernel
theorem dX0_about_25 : decode cX0_about 25 = .ok (.iload_n 1, 1) := by decide +kernel
theorem dX0_about_26 : decode cX0_about 26 = .ok (.iaload, 1) := by decide +kernel
theorem dX0_about_27 : decode cX0_about 27 = .ok (.ireturn, 1) := by decide +kernel
theorem dX0_about_28 : decode cX0_about 28 = .ok (.iload_n 2, 1) := by decide +kernel
theorem dX0_about_29 : decode cX0_about 29 = .ok (.iconst 1, 1) := by decide +kernel
theorem dX0_about_30 : decode cX0_about 30 = .ok (.if_icmp .ne 10, 3) := by decide +kernel
theorem dX0_about_33 : decode cX0_about 33 = .ok (.aload_n 0, 1) := by decide +kernel
theorem dX0_about_34 : decode cX0_about 34 = .ok (.getfield 19, 3) := by decide +kernel
theorem dX0_about_37 : decode cX0_about 37 = .ok (.iload_n 1, 1) := by decide +kernel
theorem dX0_about_38 : decode cX0_about 38 = .ok (.iaload, 1) := by decide +kernel
theorem dX0_about_39 : decode cX0_about 39 = .ok (.ireturn, 1) := by decide +kernel
theorem dX0_about_40 : decode cX0_about 40 = .ok (.iconst 0, 1) := by decide +kernel
theorem dX0_about_41 : decode cX0_about 41 = .ok (.aload_n 0, 1) := by decide +kernel
theorem dX0_about_42 : decode cX0_about 42 = .ok (.getfield 22, 3) := by decide +kernel
theorem dX0_about_45 : decode cX0_about 45 = .ok (.iload_n 1, 1) := by decide +kernel
theorem dX0_about_46 : decode cX0_about 46 = .ok (.iaload, 1) := by decide +kernel
theorem dX0_about_47 : decode cX0_about 47 = .ok (.aload_n 0, 1) := by decide +kernel
theorem dX0_about_48 : decode cX0_about 48 = .ok (.getfield 58, 3) := by decide +kernel
theorem dX0_about_51 : decode cX0_about 51 = .ok (.isub, 1) := by decide +kernel
theorem dX0_about_52 : decode cX0_about 52 = .ok (.invokestatic 84, 3) := by decide +kernel
theorem dX0_about_55 : decode cX0_about 55 = .ok (.ireturn, 1) := by decide +kernel
theorem dX0_closed_0 : decode cX0_closed 0 = .ok (.iconst 0, 1) := by decide +kernel
theorem dX0_closed_1 : decode cX0_closed 1 = .ok (.aload_n 0, 1) := by decide +kernel
theorem dX0_closed_2 : decode cX0_closed 2 = .ok (.getfield 93, 3) := by decide +kernel
theorem dX0_closed_5 : decode cX0_closed 5 = .ok (.aload_n 0, 1) := by decide +kernel
theorem dX0_closed_6 : decode cX0_closed 6 = .ok (.getfield 58, 3) := by decide +kernel
theorem dX0_closed_9 : decode cX0_closed 9 = .ok (.isub, 1) := by decide +kernel
theorem dX0_closed_10 : decode cX0_closed 10 = .ok (.invokestatic 84, 3) := by decide +kernel
theorem dX0_closed_13 : decode cX0_closed 13 = .ok (.ireturn, 1) := by decide +kernel
set_option maxRecDepth 20000 in
theorem ggX0_money_X0_bitsOf : GoodIn wsX0_money wsX0_bitsOf := goodIn_r _ [5, 6, 7, 8] (by decide +kernel) (by decide +kernel)
set_option maxRecDepth 20000 in
theorem gX0_money_X0_bitsOf : GoodIn wsX0_money (va_wsS RX0 96 yX0_bitsOf wsX0_bitsOf) := goodIn_app (goodIn_of _ (by decide +kernel)) ggX0_money_X0_bitsOf
theorem dX0_money_0 : decode cX0_money 0 = .ok (.aload_n 0, 1) := by decide +kernel
theorem dX0_money_1 : decode cX0_money 1 = .ok (.getfield 66, 3) := by decide +kernel
theorem dX0_money_4 : decode cX0_money 4 = .ok (.invokestatic 96, 3) := by decide +kernel
theorem dX0_money_7 : decode cX0_money 7 = .ok (.ireturn, 1) := by decide +kernel
set_option maxRecDepth 20000 in
theorem ggX0_goBy_X0_noteFor : GoodIn wsX0_goBy wsX0_noteFor := goodIn_r _ [10, 11, 12, 13, 14, 15, 16, 17, 18, 19, 4, 20, 21, 56, 57, 58, 59, 60, 61, 62, 63, 64, 65, 66, 67, 68, 69, 70] (by decide +kernel) (by decide +kernel)
set_option maxRecDepth 20000 in
theorem gX0_goBy_X0_noteFor : GoodIn wsX0_goBy (wsV RX0 100 RX0 yX0_noteFor wsX0_noteFor) := goodIn_app (goodIn_of _ (by decide +kernel)) ggX0_goBy_X0_noteFor
set_option maxRecDepth 20000 in
theorem ggX0_goBy_X0_notedRun : GoodIn wsX0_goBy wsX0_notedRun := goodIn_r _ [24] (by decide +kernel) (by decide +kernel)
set_option maxRecDepth 20000 in
theorem gX0_goBy_X0_notedRun : GoodIn wsX0_goBy (va_wsS RX0 103 yX0_notedRun wsX0_notedRun) := goodIn_app (goodIn_of _ (by decide +kernel)) ggX0_goBy_X0_notedRun
set_option maxRecDepth 20000 in
theorem ggX0_goBy_X0_notedHead : GoodIn wsX0_goBy wsX0_notedHead := goodIn_r _ [27] (by decide +kernel) (by decide +kernel)
set_option maxRecDepth 20000 in
theorem gX0_goBy_X0_notedHead : GoodIn wsX0_goBy (va_wsS RX0 89 yX0_notedHead wsX0_notedHead) := goodIn_app (goodIn_of _ (by decide +kernel)) ggX0_goBy_X0_notedHead
set_option maxRecDepth 20000 in
theorem ggX0_goBy_X0_makeUnits : GoodIn wsX0_goBy wsX0_makeUnits := goodIn_r _ [31, 17, 18, 32, 19, 1, 33, 34, 9, 35, 36, 37, 38, 39, 40, 41, 42, 43, 15, 44, 56, 57, 58, 59, 60, 61, 62, 63, 64, 65, 66, 67, 68, 69, 70] (by decide +kernel) (by decide +kernel)
set_option maxRecDepth 20000 in
theorem gX0_goBy_X0_makeUnits : GoodIn wsX0_goBy (wsV RX0 107 RX0 yX0_makeUnits wsX0_makeUnits) := goodIn_app (goodIn_of _ (by decide +kernel)) ggX0_goBy_X0_makeUnits
set_option maxRecDepth 20000 in
theorem ggX0_goBy_X0_settle : GoodIn wsX0_goBy wsX0_settle := goodIn_r _ [48, 49, 3, 50, 51, 52, 53, 54, 9, 55, 56, 57, 58, 59, 60, 61, 62, 63, 64, 65, 66, 67, 68, 69, 70] (by decide +kernel) (by decide +kernel)
set_option maxRecDepth 20000 in
theorem gX0_goBy_X0_settle : GoodIn wsX0_goBy (wsV RX0 110 RX0 yX0_settle wsX0_settle) := goodIn_app (goodIn_of _ (by decide +kernel)) ggX0_goBy_X0_settle
theorem dX0_goBy_0 : decode cX0_goBy 0 = .ok (.aload_n 0, 1) := by decide +kernel
theorem dX0_goBy_1 : decode cX0_goBy 1 = .ok (.iload_n 1, 1) := by decide +kernel
theorem dX0_goBy_2 : decode cX0_goBy 2 = .ok (.invokevirtual 100, 3) := by decide +kernel
theorem dX0_goBy_5 : decode cX0_goBy 5 = .ok (.istore_n 2, 1) := by decide +kernel
theorem dX0_goBy_6 : decode cX0_goBy 6 = .ok (.iload_n 2, 1) := by decide +kernel
theorem dX0_goBy_7 : decode cX0_goBy 7 = .ok (.invokestatic 103, 3) := by decide +kernel
theorem dX0_goBy_10 : decode cX0_goBy 10 = .ok (.ifCond .eq 10, 3) := by decide +kernel
theorem dX0_goBy_13 : decode cX0_goBy 13 = .ok (.aload_n 0, 1) := by decide +kernel
theorem dX0_goBy_14 : decode cX0_goBy 14 = .ok (.iload_n 1, 1) := by decide +kernel
theorem dX0_goBy_15 : decode cX0_goBy 15 = .ok (.iconst 3, 1) := by decide +kernel
theorem dX0_goBy_16 : decode cX0_goBy 16 = .ok (.iadd, 1) := by decide +kernel
theorem dX0_goBy_17 : decode cX0_goBy 17 = .ok (.putfield 93, 3) := by decide +kernel
theorem dX0_goBy_20 : decode cX0_goBy 20 = .ok (.aload_n 0, 1) := by decide +kernel
theorem dX0_goBy_21 : decode cX0_goBy 21 = .ok (.getfield 25, 3) := by decide +kernel
theorem dX0_goBy_24 : decode cX0_goBy 24 = .ok (.iload_n 1, 1) := by decide +kernel
theorem dX0_goBy_25 : decode cX0_goBy 25 = .ok (.iload_n 2, 1) := by decide +kernel
theorem dX0_goBy_26 : decode cX0_goBy 26 = .ok (.iastore, 1) := by decide +kernel
theorem dX0_goBy_27 : decode cX0_goBy 27 = .ok (.aload_n 0, 1) := by decide +kernel
theorem dX0_goBy_28 : decode cX0_goBy 28 = .ok (.getfield 28, 3) := by decide +kernel
theorem dX0_goBy_31 : decode cX0_goBy 31 = .ok (.iload_n 1, 1) := by decide +kernel
theorem dX0_goBy_32 : decode cX0_goBy 32 = .ok (.aload_n 0, 1) := by decide +kernel
theorem dX0_goBy_33 : decode cX0_goBy 33 = .ok (.iload_n 1, 1) := by decide +kernel
theorem dX0_goBy_34 : decode cX0_goBy 34 = .ok (.iload_n 2, 1) := by decide +kernel
theorem dX0_goBy_35 : decode cX0_goBy 35 = .ok (.invokestatic 89, 3) := by decide +kernel
theorem dX0_goBy_38 : decode cX0_goBy 38 = .ok (.invokevirtual 107, 3) := by decide +kernel
theorem dX0_goBy_41 : decode cX0_goBy 41 = .ok (.iastore, 1) := by decide +kernel
theorem dX0_goBy_42 : decode cX0_goBy 42 = .ok (.aload_n 0, 1) := by decide +kernel
theorem dX0_goBy_43 : decode cX0_goBy 43 = .ok (.iload_n 1, 1) := by decide +kernel
theorem dX0_goBy_44 : decode cX0_goBy 44 = .ok (.invokevirtual 110, 3) := by decide +kernel
theorem dX0_goBy_47 : decode cX0_goBy 47 = .ok (.aload_n 0, 1) := by decide +kernel
theorem dX0_goBy_48 : decode cX0_goBy 48 = .ok (.iconst 0, 1) := by decide +kernel
theorem dX0_goBy_49 : decode cX0_goBy 49 = .ok (.putfield 61, 3) := by decide +kernel
theorem dX0_goBy_52 : decode cX0_goBy 52 = .ok (.aload_n 0, 1) := by decide +kernel
theorem dX0_goBy_53 : decode cX0_goBy 53 = .ok (.iload_n 1, 1) := by decide +kernel
theorem dX0_goBy_54 : decode cX0_goBy 54 = .ok (.iconst 1, 1) := by decide +kernel
theorem dX0_goBy_55 : decode cX0_goBy 55 = .ok (.iadd, 1) := by decide +kernel
theorem dX0_goBy_56 : decode cX0_goBy 56 = .ok (.putfield 58, 3) := by decide +kernel
theorem dX0_goBy_59 : decode cX0_goBy 59 = .ok (.return_, 1) := by decide +kernel
theorem dX0_noteFor_0 : decode cX0_noteFor 0 = .ok (.aload_n 0, 1) := by decide +kernel
theorem dX0_noteFor_1 : decode cX0_noteFor 1 = .ok (.getfield 9, 3) := by decide +kernel
theorem dX0_noteFor_4 : decode cX0_noteFor 4 = .ok (.iload_n 1, 1) := by decide +kernel
theorem dX0_noteFor_5 : decode cX0_noteFor 5 = .ok (.bipush 24, 2) := by decide +kernel
theorem dX0_noteFor_7 : decode cX0_noteFor 7 = .ok (.irem, 1) := by decide +kernel
theorem dX0_noteFor_8 : decode cX0_noteFor 8 = .ok (.iaload, 1) := by decide +kernel
theorem dX0_noteFor_9 : decode cX0_noteFor 9 = .ok (.aload_n 0, 1) := by decide +kernel
theorem dX0_noteFor_10 : decode cX0_noteFor 10 = .ok (.getfield 45, 3) := by decide +kernel
theorem dX0_noteFor_13 : decode cX0_noteFor 13 = .ok (.iadd, 1) := by decide +kernel
theorem dX0_noteFor_14 : decode cX0_noteFor 14 = .ok (.invokestatic 113, 3) := by decide +kernel
theorem dX0_noteFor_17 : decode cX0_noteFor 17 = .ok (.istore_n 2, 1) := by decide +kernel
theorem dX0_noteFor_18 : decode cX0_noteFor 18 = .ok (.iconst 0, 1) := by decide +kernel
theorem dX0_noteFor_19 : decode cX0_noteFor 19 = .ok (.istore_n 3, 1) := by decide +kernel
theorem dX0_noteFor_20 : decode cX0_noteFor 20 = .ok (.iload_n 3, 1) := by decide +kernel
theorem dX0_noteFor_21 : decode cX0_noteFor 21 = .ok (.aload_n 0, 1) := by decide +kernel
theorem dX0_noteFor_22 : decode cX0_noteFor 22 = .ok (.getfield 48, 3) := by decide +kernel
theorem dX0_noteFor_25 : decode cX0_noteFor 25 = .ok (.if_icmp .ge 46, 3) := by decide +kernel
theorem dX0_noteFor_28 : decode cX0_noteFor 28 = .ok (.iload_n 2, 1) := by decide +kernel
theorem dX0_noteFor_29 : decode cX0_noteFor 29 = .ok (.aload_n 0, 1) := by decide +kernel
theorem dX0_noteFor_30 : decode cX0_noteFor 30 = .ok (.getfield 16, 3) := by decide +kernel
theorem dX0_noteFor_33 : decode cX0_noteFor 33 = .ok (.iload_n 3, 1) := by decide +kernel
theorem dX0_noteFor_34 : decode cX0_noteFor 34 = .ok (.iaload, 1) := by decide +kernel
theorem dX0_noteFor_35 : decode cX0_noteFor 35 = .ok (.bipush 7, 2) := by decide +kernel
theorem dX0_noteFor_37 : decode cX0_noteFor 37 = .ok (.iconst 3, 1) := by decide +kernel
theorem dX0_noteFor_38 : decode cX0_noteFor 38 = .ok (.iload_n 3, 1) := by decide +kernel
theorem dX0_noteFor_39 : decode cX0_noteFor 39 = .ok (.imul, 1) := by decide +kernel
theorem dX0_noteFor_40 : decode cX0_noteFor 40 = .ok (.iadd, 1) := by decide +kernel
theorem dX0_noteFor_41 : decode cX0_noteFor 41 = .ok (.ishl, 1) := by decide +kernel
theorem dX0_noteFor_42 : decode cX0_noteFor 42 = .ok (.ior, 1) := by decide +kernel
theorem dX0_noteFor_43 : decode cX0_noteFor 43 = .ok (.istore_n 2, 1) := by decide +kernel
theorem dX0_noteFor_44 : decode cX0_noteFor 44 = .ok (.aload_n 0, 1) := by decide +kernel
theorem dX0_noteFor_45 : decode cX0_noteFor 45 = .ok (.getfield 22, 3) := by decide +kernel
theorem dX0_noteFor_48 : decode cX0_noteFor 48 = .ok (.iload_n 3, 1) := by decide +kernel
theorem dX0_noteFor_49 : decode cX0_noteFor 49 = .ok (.iaload, 1) := by decide +kernel
theorem dX0_noteFor_50 : decode cX0_noteFor 50 = .ok (.iload_n 1, 1) := by decide +kernel
theorem dX0_noteFor_51 : decode cX0_noteFor 51 = .ok (.iconst 5, 1) := by decide +kernel
theorem dX0_noteFor_52 : decode cX0_noteFor 52 = .ok (.iadd, 1) := by decide +kernel
theorem dX0_noteFor_53 : decode cX0_noteFor 53 = .ok (.if_icmp .ne 12, 3) := by decide +kernel
theorem dX0_noteFor_56 : decode cX0_noteFor 56 = .ok (.iload_n 2, 1) := by decide +kernel
theorem dX0_noteFor_57 : decode cX0_noteFor 57 = .ok (.iconst 1, 1) := by decide +kernel
theorem dX0_noteFor_58 : decode cX0_noteFor 58 = .ok (.bipush 19, 2) := by decide +kernel
theorem dX0_noteFor_60 : decode cX0_noteFor 60 = .ok (.iload_n 3, 1) := by decide +kernel
theorem dX0_noteFor_61 : decode cX0_noteFor 61 = .ok (.iadd, 1) := by decide +kernel
theorem dX0_noteFor_62 : decode cX0_noteFor 62 = .ok (.ishl, 1) := by decide +kernel
theorem dX0_noteFor_63 : decode cX0_noteFor 63 = .ok (.ior, 1) := by decide +kernel
theorem dX0_noteFor_64 : decode cX0_noteFor 64 = .ok (.istore_n 2, 1) := by decide +kernel
theorem dX0_noteFor_65 : decode cX0_noteFor 65 = .ok (.iinc 3 1, 3) := by decide +kernel
theorem dX0_noteFor_68 : decode cX0_noteFor 68 = .ok (.goto (-48), 3) := by decide +kernel
theorem dX0_noteFor_71 : decode cX0_noteFor 71 = .ok (.aload_n 0, 1) := by decide +kernel
theorem dX0_noteFor_72 : decode cX0_noteFor 72 = .ok (.getfield 61, 3) := by decide +kernel
theorem dX0_noteFor_75 : decode cX0_noteFor 75 = .ok (.aload_n 0, 1) := by decide +kernel
theorem dX0_noteFor_76 : decode cX0_noteFor 76 = .ok (.getfield 34, 3) := by decide +kernel
theorem dX0_noteFor_79 : decode cX0_noteFor 79 = .ok (.if_icmp .le 8, 3) := by decide +kernel
theorem dX0_noteFor_82 : decode cX0_noteFor 82 = .ok (.iload_n 2, 1) := by decide +kernel
theorem dX0_noteFor_83 : decode cX0_noteFor 83 = .ok (.ldc 116, 2) := by decide +kernel
theorem dX0_noteFor_85 : decode cX0_noteFor 85 = .ok (.ior, 1) := by decide +kernel
theorem dX0_noteFor_86 : decode cX0_noteFor 86 = .ok (.istore_n 2, 1) := by decide +kernel
theorem dX0_noteFor_87 : decode cX0_noteFor 87 = .ok (.iload_n 2, 1) := by decide +kernel
theorem dX0_noteFor_88 : decode cX0_noteFor 88 = .ok (.ireturn, 1) := by decide +kernel
set_option maxRecDepth 20000 in
theorem ggX0_makeUnits_X0_works : GoodIn wsX0_makeUnits wsX0_works := goodIn_r _ [9] (by decide +kernel) (by decide +kernel)
set_option maxRecDepth 20000 in
theorem gX0_makeUnits_X0_works : GoodIn wsX0_makeUnits (va_wsS RX0 117 yX0_works wsX0_works) := goodIn_app (goodIn_of _ (by decide +kernel)) ggX0_makeUnits_X0_works
set_option maxRecDepth 20000 in
theorem ggX0_makeUnits_X0_unitsOf : GoodIn wsX0_makeUnits wsX0_unitsOf := goodIn_r _ [12] (by decide +kernel) (by decide +kernel)
set_option maxRecDepth 20000 in
theorem gX0_makeUnits_X0_unitsOf : GoodIn wsX0_makeUnits (va_wsS RX0 121 yX0_unitsOf wsX0_unitsOf) := goodIn_app (goodIn_of _ (by decide +kernel)) ggX0_makeUnits_X0_unitsOf
set_option maxRecDepth 20000 in
theorem ggX0_makeUnits_X0_wearAfter : GoodIn wsX0_makeUnits wsX0_wearAfter := goodIn_r _ [15, 16, 17, 18, 19] (by decide +kernel) (by decide +kernel)
set_option maxRecDepth 20000 in
theorem gX0_makeUnits_X0_wearAfter : GoodIn wsX0_makeUnits (va_wsS RX0 125 yX0_wearAfter wsX0_wearAfter) := goodIn_app (goodIn_of _ (by decide +kernel)) ggX0_makeUnits_X0_wearAfter
theorem dX0_makeUnits_0 : decode cX0_makeUnits 0 = .ok (.iconst 0, 1) := by decide +kernel
theorem dX0_makeUnits_1 : decode cX0_makeUnits 1 = .ok (.istore_n 3, 1) := by decide +kernel
theorem dX0_makeUnits_2 : decode cX0_makeUnits 2 = .ok (.iconst 0, 1) := by decide +kernel
theorem dX0_makeUnits_3 : decode cX0_makeUnits 3 = .ok (.istore 4, 2) := by decide +kernel
theorem dX0_makeUnits_5 : decode cX0_makeUnits 5 = .ok (.iload 4, 2) := by decide +kernel
theorem dX0_makeUnits_7 : decode cX0_makeUnits 7 = .ok (.aload_n 0, 1) := by decide +kernel
theorem dX0_makeUnits_8 : decode cX0_makeUnits 8 = .ok (.getfield 48, 3) := by decide +kernel
theorem dX0_makeUnits_11 : decode cX0_makeUnits 11 = .ok (.if_icmp .ge 73, 3) := by decide +kernel
theorem dX0_makeUnits_14 : decode cX0_makeUnits 14 = .ok (.aload_n 0, 1) := by decide +kernel
theorem dX0_makeUnits_15 : decode cX0_makeUnits 15 = .ok (.getfield 16, 3) := by decide +kernel
theorem dX0_makeUnits_18 : decode cX0_makeUnits 18 = .ok (.iload 4, 2) := by decide +kernel
theorem dX0_makeUnits_20 : decode cX0_makeUnits 20 = .ok (.iaload, 1) := by decide +kernel
theorem dX0_makeUnits_21 : decode cX0_makeUnits 21 = .ok (.istore 5, 2) := by decide +kernel
theorem dX0_makeUnits_23 : decode cX0_makeUnits 23 = .ok (.aload_n 0, 1) := by decide +kernel
theorem dX0_makeUnits_24 : decode cX0_makeUnits 24 = .ok (.getfield 19, 3) := by decide +kernel
theorem dX0_makeUnits_27 : decode cX0_makeUnits 27 = .ok (.iload 4, 2) := by decide +kernel
theorem dX0_makeUnits_29 : decode cX0_makeUnits 29 = .ok (.iaload, 1) := by decide +kernel
theorem dX0_makeUnits_30 : decode cX0_makeUnits 30 = .ok (.istore 6, 2) := by decide +kernel
theorem dX0_makeUnits_32 : decode cX0_makeUnits 32 = .ok (.iload_n 1, 1) := by decide +kernel
theorem dX0_makeUnits_33 : decode cX0_makeUnits 33 = .ok (.iload 6, 2) := by decide +kernel
theorem dX0_makeUnits_35 : decode cX0_makeUnits 35 = .ok (.aload_n 0, 1) := by decide +kernel
theorem dX0_makeUnits_36 : decode cX0_makeUnits 36 = .ok (.getfield 22, 3) := by decide +kernel
theorem dX0_makeUnits_39 : decode cX0_makeUnits 39 = .ok (.iload 4, 2) := by decide +kernel
theorem dX0_makeUnits_41 : decode cX0_makeUnits 41 = .ok (.iaload, 1) := by decide +kernel
theorem dX0_makeUnits_42 : decode cX0_makeUnits 42 = .ok (.aload_n 0, 1) := by decide +kernel
theorem dX0_makeUnits_43 : decode cX0_makeUnits 43 = .ok (.getfield 93, 3) := by decide +kernel
theorem dX0_makeUnits_46 : decode cX0_makeUnits 46 = .ok (.invokestatic 117, 3) := by decide +kernel
theorem dX0_makeUnits_49 : decode cX0_makeUnits 49 = .ok (.ifCond .eq 29, 3) := by decide +kernel
theorem dX0_makeUnits_52 : decode cX0_makeUnits 52 = .ok (.iload_n 3, 1) := by decide +kernel
theorem dX0_makeUnits_53 : decode cX0_makeUnits 53 = .ok (.iload_n 2, 1) := by decide +kernel
theorem dX0_makeUnits_54 : decode cX0_makeUnits 54 = .ok (.iload 5, 2) := by decide +kernel
theorem dX0_makeUnits_56 : decode cX0_makeUnits 56 = .ok (.iload 6, 2) := by decide +kernel
theorem dX0_makeUnits_58 : decode cX0_makeUnits 58 = .ok (.invokestatic 121, 3) := by decide +kernel
theorem dX0_makeUnits_61 : decode cX0_makeUnits 61 = .ok (.iadd, 1) := by decide +kernel
theorem dX0_makeUnits_62 : decode cX0_makeUnits 62 = .ok (.istore_n 3, 1) := by decide +kernel
theorem dX0_makeUnits_63 : decode cX0_makeUnits 63 = .ok (.aload_n 0, 1) := by decide +kernel
theorem dX0_makeUnits_64 : decode cX0_makeUnits 64 = .ok (.getfield 19, 3) := by decide +kernel
theorem dX0_makeUnits_67 : decode cX0_makeUnits 67 = .ok (.iload 4, 2) := by decide +kernel
theorem dX0_makeUnits_69 : decode cX0_makeUnits 69 = .ok (.iload_n 2, 1) := by decide +kernel
theorem dX0_makeUnits_70 : decode cX0_makeUnits 70 = .ok (.iload 5, 2) := by decide +kernel
theorem dX0_makeUnits_72 : decode cX0_makeUnits 72 = .ok (.iload 6, 2) := by decide +kernel
theorem dX0_makeUnits_74 : decode cX0_makeUnits 74 = .ok (.invokestatic 125, 3) := by decide +kernel
theorem dX0_makeUnits_77 : decode cX0_makeUnits 77 = .ok (.iastore, 1) := by decide +kernel
theorem dX0_makeUnits_78 : decode cX0_makeUnits 78 = .ok (.iinc 4 1, 3) := by decide +kernel
theorem dX0_makeUnits_81 : decode cX0_makeUnits 81 = .ok (.goto (-76), 3) := by decide +kernel
theorem dX0_makeUnits_84 : decode cX0_makeUnits 84 = .ok (.iload_n 3, 1) := by decide +kernel
theorem dX0_makeUnits_85 : decode cX0_makeUnits 85 = .ok (.ireturn, 1) := by decide +kernel
set_option maxRecDepth 20000 in
theorem ggX0_settle_X0_worth : GoodIn wsX0_settle wsX0_worth := goodIn_r _ [9] (by decide +kernel) (by decide +kernel)
set_option maxRecDepth 20000 in
theorem gX0_settle_X0_worth : GoodIn wsX0_settle (va_wsS RX0 70 yX0_worth wsX0_worth) := goodIn_app (goodIn_of _ (by decide +kernel)) ggX0_settle_X0_worth
theorem dX0_settle_0 : decode cX0_settle 0 = .ok (.aload_n 0, 1) := by decide +kernel
theorem dX0_settle_1 : decode cX0_settle 1 = .ok (.getfield 13, 3) := by decide +kernel
theorem dX0_settle_4 : decode cX0_settle 4 = .ok (.iload_n 1, 1) := by decide +kernel
theorem dX0_settle_5 : decode cX0_settle 5 = .ok (.bipush 24, 2) := by decide +kernel
theorem dX0_settle_7 : decode cX0_settle 7 = .ok (.irem, 1) := by decide +kernel
theorem dX0_settle_8 : decode cX0_settle 8 = .ok (.iaload, 1) := by decide +kernel
theorem dX0_settle_9 : decode cX0_settle 9 = .ok (.istore_n 2, 1) := by decide +kernel
theorem dX0_settle_10 : decode cX0_settle 10 = .ok (.aload_n 0, 1) := by decide +kernel
theorem dX0_settle_11 : decode cX0_settle 11 = .ok (.getfield 28, 3) := by decide +kernel
theorem dX0_settle_14 : decode cX0_settle 14 = .ok (.iload_n 1, 1) := by decide +kernel
theorem dX0_settle_15 : decode cX0_settle 15 = .ok (.iaload, 1) := by decide +kernel
theorem dX0_settle_16 : decode cX0_settle 16 = .ok (.aload_n 0, 1) := by decide +kernel
theorem dX0_settle_17 : decode cX0_settle 17 = .ok (.getfield 31, 3) := by decide +kernel
theorem dX0_settle_20 : decode cX0_settle 20 = .ok (.iload_n 1, 1) := by decide +kernel
theorem dX0_settle_21 : decode cX0_settle 21 = .ok (.iaload, 1) := by decide +kernel
theorem dX0_settle_22 : decode cX0_settle 22 = .ok (.isub, 1) := by decide +kernel
theorem dX0_settle_23 : decode cX0_settle 23 = .ok (.istore_n 3, 1) := by decide +kernel
theorem dX0_settle_24 : decode cX0_settle 24 = .ok (.iload_n 3, 1) := by decide +kernel
theorem dX0_settle_25 : decode cX0_settle 25 = .ok (.ifCond .ge 21, 3) := by decide +kernel
theorem dX0_settle_28 : decode cX0_settle 28 = .ok (.aload_n 0, 1) := by decide +kernel
theorem dX0_settle_29 : decode cX0_settle 29 = .ok (.aload_n 0, 1) := by decide +kernel
theorem dX0_settle_30 : decode cX0_settle 30 = .ok (.getfield 66, 3) := by decide +kernel
theorem dX0_settle_33 : decode cX0_settle 33 = .ok (.iload_n 3, 1) := by decide +kernel
theorem dX0_settle_34 : decode cX0_settle 34 = .ok (.ineg, 1) := by decide +kernel
theorem dX0_settle_35 : decode cX0_settle 35 = .ok (.iload_n 2, 1) := by decide +kernel
theorem dX0_settle_36 : decode cX0_settle 36 = .ok (.invokestatic 70, 3) := by decide +kernel
theorem dX0_settle_39 : decode cX0_settle 39 = .ok (.fsub, 1) := by decide +kernel
theorem dX0_settle_40 : decode cX0_settle 40 = .ok (.putfield 66, 3) := by decide +kernel
theorem dX0_settle_43 : decode cX0_settle 43 = .ok (.goto 24, 3) := by decide +kernel
theorem dX0_settle_46 : decode cX0_settle 46 = .ok (.iload_n 3, 1) := by decide +kernel
theorem dX0_settle_47 : decode cX0_settle 47 = .ok (.ifCond .le 20, 3) := by decide +kernel
theorem dX0_settle_50 : decode cX0_settle 50 = .ok (.aload_n 0, 1) := by decide +kernel
theorem dX0_settle_51 : decode cX0_settle 51 = .ok (.aload_n 0, 1) := by decide +kernel
theorem dX0_settle_52 : decode cX0_settle 52 = .ok (.getfield 66, 3) := by decide +kernel
theorem dX0_settle_55 : decode cX0_settle 55 = .ok (.iload_n 3, 1) := by decide +kernel
theorem dX0_settle_56 : decode cX0_settle 56 = .ok (.iload_n 2, 1) := by decide +kernel
theorem dX0_settle_57 : decode cX0_settle 57 = .ok (.invokestatic 70, 3) := by decide +kernel
theorem dX0_settle_60 : decode cX0_settle 60 = .ok (.ldc 128, 2) := by decide +kernel
theorem dX0_settle_62 : decode cX0_settle 62 = .ok (.fmul, 1) := by decide +kernel
theorem dX0_settle_63 : decode cX0_settle 63 = .ok (.fadd, 1) := by decide +kernel
theorem dX0_settle_64 : decode cX0_settle 64 = .ok (.putfield 66, 3) := by decide +kernel
theorem dX0_settle_67 : decode cX0_settle 67 = .ok (.return_, 1) := by decide +kernel
theorem dX0_worth_0 : decode cX0_worth 0 = .ok (.iload_n 0, 1) := by decide +kernel
theorem dX0_worth_1 : decode cX0_worth 1 = .ok (.i2f, 1) := by decide +kernel
theorem dX0_worth_2 : decode cX0_worth 2 = .ok (.iload_n 1, 1) := by decide +kernel
theorem dX0_worth_3 : decode cX0_worth 3 = .ok (.i2f, 1) := by decide +kernel
theorem dX0_worth_4 : decode cX0_worth 4 = .ok (.fmul, 1) := by decide +kernel
theorem dX0_worth_5 : decode cX0_worth 5 = .ok (.freturn, 1) := by decide +kernel
theorem dX0_works_0 : decode cX0_works 0 = .ok (.iload_n 1, 1) := by decide +kernel
theorem dX0_works_1 : decode cX0_works 1 = .ok (.sipush 1000, 3) := by decide +kernel
theorem dX0_works_4 : decode cX0_works 4 = .ok (.if_icmp .ge 17, 3) := by decide +kernel
theorem dX0_works_7 : decode cX0_works 7 = .ok (.iload_n 0, 1) := by decide +kernel
theorem dX0_works_8 : decode cX0_works 8 = .ok (.iload_n 2, 1) := by decide +kernel
theorem dX0_works_9 : decode cX0_works 9 = .ok (.if_icmp .lt 12, 3) := by decide +kernel
theorem dX0_works_12 : decode cX0_works 12 = .ok (.iload_n 0, 1) := by decide +kernel
theorem dX0_works_13 : decode cX0_works 13 = .ok (.iload_n 3, 1) := by decide +kernel
theorem dX0_works_14 : decode cX0_works 14 = .ok (.if_icmp .lt 7, 3) := by decide +kernel
theorem dX0_works_17 : decode cX0_works 17 = .ok (.iconst 1, 1) := by decide +kernel
theorem dX0_works_18 : decode cX0_works 18 = .ok (.goto 4, 3) := by decide +kernel
theorem dX0_works_21 : decode cX0_works 21 = .ok (.iconst 0, 1) := by decide +kernel
theorem dX0_works_22 : decode cX0_works 22 = .ok (.ireturn, 1) := by decide +kernel
theorem dX0_unitsOf_0 : decode cX0_unitsOf 0 = .ok (.iload_n 0, 1) := by decide +kernel
theorem dX0_unitsOf_1 : decode cX0_unitsOf 1 = .ok (.iload_n 1, 1) := by decide +kernel
theorem dX0_unitsOf_2 : decode cX0_unitsOf 2 = .ok (.imul, 1) := by decide +kernel
theorem dX0_unitsOf_3 : decode cX0_unitsOf 3 = .ok (.sipush 1000, 3) := by decide +kernel
theorem dX0_unitsOf_6 : decode cX0_unitsOf 6 = .ok (.iload_n 2, 1) := by decide +kernel
theorem dX0_unitsOf_7 : decode cX0_unitsOf 7 = .ok (.isub, 1) := by decide +kernel
theorem dX0_unitsOf_8 : decode cX0_unitsOf 8 = .ok (.imul, 1) := by decide +kernel
theorem dX0_unitsOf_9 : decode cX0_unitsOf 9 = .ok (.sipush 8000, 3) := by decide +kernel
theorem dX0_unitsOf_12 : decode cX0_unitsOf 12 = .ok (.idiv, 1) := by decide +kernel
theorem dX0_unitsOf_13 : decode cX0_unitsOf 13 = .ok (.ireturn, 1) := by decide +kernel
theorem dX0_wearAfter_0 : decode cX0_wearAfter 0 = .ok (.iload_n 1, 1) := by decide +kernel
theorem dX0_wearAfter_1 : decode cX0_wearAfter 1 = .ok (.ifCond .ne 5, 3) := by decide +kernel
theorem dX0_wearAfter_4 : decode cX0_wearAfter 4 = .ok (.iload_n 2, 1) := by decide +kernel
theorem dX0_wearAfter_5 : decode cX0_wearAfter 5 = .ok (.ireturn, 1) := by decide +kernel
theorem dX0_wearAfter_6 : decode cX0_wearAfter 6 = .ok (.iload_n 0, 1) := by decide +kernel
theorem dX0_wearAfter_7 : decode cX0_wearAfter 7 = .ok (.bipush 60, 2) := by decide +kernel
theorem dX0_wearAfter_9 : decode cX0_wearAfter 9 = .ok (.if_icmp .le 9, 3) := by decide +kernel
theorem dX0_wearAfter_12 : decode cX0_wearAfter 12 = .ok (.iload_n 1, 1) := by decide +kernel
theorem dX0_wearAfter_13 : decode cX0_wearAfter 13 = .ok (.iconst 2, 1) := by decide +kernel
theorem dX0_wearAfter_14 : decode cX0_wearAfter 14 = .ok (.iadd, 1) := by decide +kernel
theorem dX0_wearAfter_15 : decode cX0_wearAfter 15 = .ok (.goto 4, 3) := by decide +kernel
theorem dX0_wearAfter_18 : decode cX0_wearAfter 18 = .ok (.iload_n 1, 1) := by decide +kernel
theorem dX0_wearAfter_19 : decode cX0_wearAfter 19 = .ok (.istore_n 3, 1) := by decide +kernel
theorem dX0_wearAfter_20 : decode cX0_wearAfter 20 = .ok (.sipush 1000, 3) := by decide +kernel
theorem dX0_wearAfter_23 : decode cX0_wearAfter 23 = .ok (.iload_n 2, 1) := by decide +kernel
theorem dX0_wearAfter_24 : decode cX0_wearAfter 24 = .ok (.iload_n 3, 1) := by decide +kernel
theorem dX0_wearAfter_25 : decode cX0_wearAfter 25 = .ok (.iadd, 1) := by decide +kernel
theorem dX0_wearAfter_26 : decode cX0_wearAfter 26 = .ok (.invokestatic 129, 3) := by decide +kernel
theorem dX0_wearAfter_29 : decode cX0_wearAfter 29 = .ok (.ireturn, 1) := by decide +kernel
set_option maxRecDepth 20000 in
theorem ggX0_unitsFromNotes_X0_notedRepair : GoodIn wsX0_unitsFromNotes wsX0_notedRepair := goodIn_r _ [5] (by decide +kernel) (by decide +kernel)
set_option maxRecDepth 20000 in
theorem gX0_unitsFromNotes_X0_notedRepair : GoodIn wsX0_unitsFromNotes (va_wsS RX0 132 yX0_notedRepair wsX0_notedRepair) := goodIn_app (goodIn_of _ (by decide +kernel)) ggX0_unitsFromNotes_X0_notedRepair
set_option maxRecDepth 20000 in
theorem ggX0_unitsFromNotes_X0_notedRun : GoodIn wsX0_unitsFromNotes wsX0_notedRun := goodIn_r _ [8] (by decide +kernel) (by decide +kernel)
set_option maxRecDepth 20000 in
theorem gX0_unitsFromNotes_X0_notedRun : GoodIn wsX0_unitsFromNotes (va_wsS RX0 103 yX0_notedRun wsX0_notedRun) := goodIn_app (goodIn_of _ (by decide +kernel)) ggX0_unitsFromNotes_X0_notedRun
set_option maxRecDepth 20000 in
theorem ggX0_unitsFromNotes_X0_works : GoodIn wsX0_unitsFromNotes wsX0_works := goodIn_r _ [11] (by decide +kernel) (by decide +kernel)
set_option maxRecDepth 20000 in
theorem gX0_unitsFromNotes_X0_works : GoodIn wsX0_unitsFromNotes (va_wsS RX0 117 yX0_works wsX0_works) := goodIn_app (goodIn_of _ (by decide +kernel)) ggX0_unitsFromNotes_X0_works
set_option maxRecDepth 20000 in
theorem ggX0_unitsFromNotes_X0_notedHead : GoodIn wsX0_unitsFromNotes wsX0_notedHead := goodIn_r _ [14] (by decide +kernel) (by decide +kernel)
set_option maxRecDepth 20000 in
theorem gX0_unitsFromNotes_X0_notedHead : GoodIn wsX0_unitsFromNotes (va_wsS RX0 89 yX0_notedHead wsX0_notedHead) := goodIn_app (goodIn_of _ (by decide +kernel)) ggX0_unitsFromNotes_X0_notedHead
set_option maxRecDepth 20000 in
theorem ggX0_unitsFromNotes_X0_notedGate : GoodIn wsX0_unitsFromNotes wsX0_notedGate := goodIn_r _ [17] (by decide +kernel) (by decide +kernel)
set_option maxRecDepth 20000 in
theorem gX0_unitsFromNotes_X0_notedGate : GoodIn wsX0_unitsFromNotes (va_wsS RX0 136 yX0_notedGate wsX0_notedGate) := goodIn_app (goodIn_of _ (by decide +kernel)) ggX0_unitsFromNotes_X0_notedGate
set_option maxRecDepth 20000 in
theorem ggX0_unitsFromNotes_X0_unitsOf : GoodIn wsX0_unitsFromNotes wsX0_unitsOf := goodIn_r _ [20] (by decide +kernel) (by decide +kernel)
set_option maxRecDepth 20000 in
theorem gX0_unitsFromNotes_X0_unitsOf : GoodIn wsX0_unitsFromNotes (va_wsS RX0 121 yX0_unitsOf wsX0_unitsOf) := goodIn_app (goodIn_of _ (by decide +kernel)) ggX0_unitsFromNotes_X0_unitsOf
set_option maxRecDepth 20000 in
theorem ggX0_unitsFromNotes_X0_wearAfter : GoodIn wsX0_unitsFromNotes wsX0_wearAfter := goodIn_r _ [23, 24, 25, 26, 27] (by decide +kernel) (by decide +kernel)
set_option maxRecDepth 20000 in
theorem gX0_unitsFromNotes_X0_wearAfter : GoodIn wsX0_unitsFromNotes (va_wsS RX0 125 yX0_wearAfter wsX0_wearAfter) := goodIn_app (goodIn_of _ (by decide +kernel)) ggX0_unitsFromNotes_X0_wearAfter
theorem dX0_unitsFromNotes_0 : decode cX0_unitsFromNotes 0 = .ok (.iconst 0, 1) := by decide +kernel
theorem dX0_unitsFromNotes_1 : decode cX0_unitsFromNotes 1 = .ok (.istore_n 3, 1) := by decide +kernel
theorem dX0_unitsFromNotes_2 : decode cX0_unitsFromNotes 2 = .ok (.iconst 0, 1) := by decide +kernel
theorem dX0_unitsFromNotes_3 : decode cX0_unitsFromNotes 3 = .ok (.istore 4, 2) := by decide +kernel
theorem dX0_unitsFromNotes_5 : decode cX0_unitsFromNotes 5 = .ok (.iconst 0, 1) := by decide +kernel
theorem dX0_unitsFromNotes_6 : decode cX0_unitsFromNotes 6 = .ok (.istore 5, 2) := by decide +kernel
theorem dX0_unitsFromNotes_8 : decode cX0_unitsFromNotes 8 = .ok (.iconst 0, 1) := by decide +kernel
theorem dX0_unitsFromNotes_9 : decode cX0_unitsFromNotes 9 = .ok (.istore 6, 2) := by decide +kernel
theorem dX0_unitsFromNotes_11 : decode cX0_unitsFromNotes 11 = .ok (.iconst 0, 1) := by decide +kernel
theorem dX0_unitsFromNotes_12 : decode cX0_unitsFromNotes 12 = .ok (.istore 7, 2) := by decide +kernel
theorem dX0_unitsFromNotes_14 : decode cX0_unitsFromNotes 14 = .ok (.iload 7, 2) := by decide +kernel
theorem dX0_unitsFromNotes_16 : decode cX0_unitsFromNotes 16 = .ok (.iload_n 2, 1) := by decide +kernel
theorem dX0_unitsFromNotes_17 : decode cX0_unitsFromNotes 17 = .ok (.if_icmp .gt 101, 3) := by decide +kernel
theorem dX0_unitsFromNotes_20 : decode cX0_unitsFromNotes 20 = .ok (.aload_n 0, 1) := by decide +kernel
theorem dX0_unitsFromNotes_21 : decode cX0_unitsFromNotes 21 = .ok (.getfield 25, 3) := by decide +kernel
theorem dX0_unitsFromNotes_24 : decode cX0_unitsFromNotes 24 = .ok (.iload 7, 2) := by decide +kernel
theorem dX0_unitsFromNotes_26 : decode cX0_unitsFromNotes 26 = .ok (.iaload, 1) := by decide +kernel
theorem dX0_unitsFromNotes_27 : decode cX0_unitsFromNotes 27 = .ok (.istore 8, 2) := by decide +kernel
theorem dX0_unitsFromNotes_29 : decode cX0_unitsFromNotes 29 = .ok (.iload 8, 2) := by decide +kernel
theorem dX0_unitsFromNotes_31 : decode cX0_unitsFromNotes 31 = .ok (.iload_n 1, 1) := by decide +kernel
theorem dX0_unitsFromNotes_32 : decode cX0_unitsFromNotes 32 = .ok (.invokestatic 132, 3) := by decide +kernel
theorem dX0_unitsFromNotes_35 : decode cX0_unitsFromNotes 35 = .ok (.ifCond .eq 12, 3) := by decide +kernel
theorem dX0_unitsFromNotes_38 : decode cX0_unitsFromNotes 38 = .ok (.iconst 0, 1) := by decide +kernel
theorem dX0_unitsFromNotes_39 : decode cX0_unitsFromNotes 39 = .ok (.istore 4, 2) := by decide +kernel
theorem dX0_unitsFromNotes_41 : decode cX0_unitsFromNotes 41 = .ok (.iload 7, 2) := by decide +kernel
theorem dX0_unitsFromNotes_43 : decode cX0_unitsFromNotes 43 = .ok (.iconst 5, 1) := by decide +kernel
theorem dX0_unitsFromNotes_44 : decode cX0_unitsFromNotes 44 = .ok (.iadd, 1) := by decide +kernel
theorem dX0_unitsFromNotes_45 : decode cX0_unitsFromNotes 45 = .ok (.istore 5, 2) := by decide +kernel
theorem dX0_unitsFromNotes_47 : decode cX0_unitsFromNotes 47 = .ok (.iload 8, 2) := by decide +kernel
theorem dX0_unitsFromNotes_49 : decode cX0_unitsFromNotes 49 = .ok (.invokestatic 103, 3) := by decide +kernel
theorem dX0_unitsFromNotes_52 : decode cX0_unitsFromNotes 52 = .ok (.ifCond .eq 9, 3) := by decide +kernel
theorem dX0_unitsFromNotes_55 : decode cX0_unitsFromNotes 55 = .ok (.iload 7, 2) := by decide +kernel
theorem dX0_unitsFromNotes_57 : decode cX0_unitsFromNotes 57 = .ok (.iconst 3, 1) := by decide +kernel
theorem dX0_unitsFromNotes_58 : decode cX0_unitsFromNotes 58 = .ok (.iadd, 1) := by decide +kernel
theorem dX0_unitsFromNotes_59 : decode cX0_unitsFromNotes 59 = .ok (.istore 6, 2) := by decide +kernel
theorem dX0_unitsFromNotes_61 : decode cX0_unitsFromNotes 61 = .ok (.iconst 0, 1) := by decide +kernel
theorem dX0_unitsFromNotes_62 : decode cX0_unitsFromNotes 62 = .ok (.istore_n 3, 1) := by decide +kernel
theorem dX0_unitsFromNotes_63 : decode cX0_unitsFromNotes 63 = .ok (.iload 7, 2) := by decide +kernel
theorem dX0_unitsFromNotes_65 : decode cX0_unitsFromNotes 65 = .ok (.iload 4, 2) := by decide +kernel
theorem dX0_unitsFromNotes_67 : decode cX0_unitsFromNotes 67 = .ok (.iload 5, 2) := by decide +kernel
theorem dX0_unitsFromNotes_69 : decode cX0_unitsFromNotes 69 = .ok (.iload 6, 2) := by decide +kernel
theorem dX0_unitsFromNotes_71 : decode cX0_unitsFromNotes 71 = .ok (.invokestatic 117, 3) := by decide +kernel
theorem dX0_unitsFromNotes_74 : decode cX0_unitsFromNotes 74 = .ok (.ifCond .eq 38, 3) := by decide +kernel
theorem dX0_unitsFromNotes_77 : decode cX0_unitsFromNotes 77 = .ok (.iload 8, 2) := by decide +kernel
theorem dX0_unitsFromNotes_79 : decode cX0_unitsFromNotes 79 = .ok (.invokestatic 89, 3) := by decide +kernel
theorem dX0_unitsFromNotes_82 : decode cX0_unitsFromNotes 82 = .ok (.iload 8, 2) := by decide +kernel
theorem dX0_unitsFromNotes_84 : decode cX0_unitsFromNotes 84 = .ok (.iload_n 1, 1) := by decide +kernel
theorem dX0_unitsFromNotes_85 : decode cX0_unitsFromNotes 85 = .ok (.invokestatic 136, 3) := by decide +kernel
theorem dX0_unitsFromNotes_88 : decode cX0_unitsFromNotes 88 = .ok (.iload 4, 2) := by decide +kernel
theorem dX0_unitsFromNotes_90 : decode cX0_unitsFromNotes 90 = .ok (.invokestatic 121, 3) := by decide +kernel
theorem dX0_unitsFromNotes_93 : decode cX0_unitsFromNotes 93 = .ok (.istore_n 3, 1) := by decide +kernel
theorem dX0_unitsFromNotes_94 : decode cX0_unitsFromNotes 94 = .ok (.iload 8, 2) := by decide +kernel
theorem dX0_unitsFromNotes_96 : decode cX0_unitsFromNotes 96 = .ok (.invokestatic 89, 3) := by decide +kernel
theorem dX0_unitsFromNotes_99 : decode cX0_unitsFromNotes 99 = .ok (.iload 8, 2) := by decide +kernel
theorem dX0_unitsFromNotes_101 : decode cX0_unitsFromNotes 101 = .ok (.iload_n 1, 1) := by decide +kernel
theorem dX0_unitsFromNotes_102 : decode cX0_unitsFromNotes 102 = .ok (.invokestatic 136, 3) := by decide +kernel
theorem dX0_unitsFromNotes_105 : decode cX0_unitsFromNotes 105 = .ok (.iload 4, 2) := by decide +kernel
theorem dX0_unitsFromNotes_107 : decode cX0_unitsFromNotes 107 = .ok (.invokestatic 125, 3) := by decide +kernel
theorem dX0_unitsFromNotes_110 : decode cX0_unitsFromNotes 110 = .ok (.istore 4, 2) := by decide +kernel
theorem dX0_unitsFromNotes_112 : decode cX0_unitsFromNotes 112 = .ok (.iinc 7 1, 3) := by decide +kernel
theorem dX0_unitsFromNotes_115 : decode cX0_unitsFromNotes 115 = .ok (.goto (-101), 3) := by decide +kernel
theorem dX0_unitsFromNotes_118 : decode cX0_unitsFromNotes 118 = .ok (.iload_n 3, 1) := by decide +kernel
theorem dX0_unitsFromNotes_119 : decode cX0_unitsFromNotes 119 = .ok (.ireturn, 1) := by decide +kernel
theorem dX0_notedHead_0 : decode cX0_notedHead 0 = .ok (.iload_n 0, 1) := by decide +kernel
theorem dX0_notedHead_1 : decode cX0_notedHead 1 = .ok (.bipush 127, 2) := by decide +kernel
theorem dX0_notedHead_3 : decode cX0_notedHead 3 = .ok (.iand, 1) := by decide +kernel
theorem dX0_notedHead_4 : decode cX0_notedHead 4 = .ok (.ireturn, 1) := by decide +kernel
theorem dX0_notedGate_0 : decode cX0_notedGate 0 = .ok (.iload_n 0, 1) := by decide +kernel
theorem dX0_notedGate_1 : decode cX0_notedGate 1 = .ok (.bipush 7, 2) := by decide +kernel
theorem dX0_notedGate_3 : decode cX0_notedGate 3 = .ok (.iconst 3, 1) := by decide +kernel
theorem dX0_notedGate_4 : decode cX0_notedGate 4 = .ok (.iload_n 1, 1) := by decide +kernel
theorem dX0_notedGate_5 : decode cX0_notedGate 5 = .ok (.imul, 1) := by decide +kernel
theorem dX0_notedGate_6 : decode cX0_notedGate 6 = .ok (.iadd, 1) := by decide +kernel
theorem dX0_notedGate_7 : decode cX0_notedGate 7 = .ok (.ishr, 1) := by decide +kernel
theorem dX0_notedGate_8 : decode cX0_notedGate 8 = .ok (.bipush 7, 2) := by decide +kernel
theorem dX0_notedGate_10 : decode cX0_notedGate 10 = .ok (.iand, 1) := by decide +kernel
theorem dX0_notedGate_11 : decode cX0_notedGate 11 = .ok (.ireturn, 1) := by decide +kernel
theorem dX0_notedRepair_0 : decode cX0_notedRepair 0 = .ok (.iload_n 0, 1) := by decide +kernel
theorem dX0_notedRepair_1 : decode cX0_notedRepair 1 = .ok (.bipush 19, 2) := by decide +kernel
theorem dX0_notedRepair_3 : decode cX0_notedRepair 3 = .ok (.iload_n 1, 1) := by decide +kernel
theorem dX0_notedRepair_4 : decode cX0_notedRepair 4 = .ok (.iadd, 1) := by decide +kernel
theorem dX0_notedRepair_5 : decode cX0_notedRepair 5 = .ok (.ishr, 1) := by decide +kernel
theorem dX0_notedRepair_6 : decode cX0_notedRepair 6 = .ok (.iconst 1, 1) := by decide +kernel
theorem dX0_notedRepair_7 : decode cX0_notedRepair 7 = .ok (.iand, 1) := by decide +kernel
theorem dX0_notedRepair_8 : decode cX0_notedRepair 8 = .ok (.ifCond .eq 7, 3) := by decide +kernel
theorem dX0_notedRepair_11 : decode cX0_notedRepair 11 = .ok (.iconst 1, 1) := by decide +kernel
theorem dX0_notedRepair_12 : decode cX0_notedRepair 12 = .ok (.goto 4, 3) := by decide +kernel
theorem dX0_notedRepair_15 : decode cX0_notedRepair 15 = .ok (.iconst 0, 1) := by decide +kernel
theorem dX0_notedRepair_16 : decode cX0_notedRepair 16 = .ok (.ireturn, 1) := by decide +kernel
theorem dX0_notedRun_0 : decode cX0_notedRun 0 = .ok (.iload_n 0, 1) := by decide +kernel
theorem dX0_notedRun_1 : decode cX0_notedRun 1 = .ok (.bipush 23, 2) := by decide +kernel
theorem dX0_notedRun_3 : decode cX0_notedRun 3 = .ok (.ishr, 1) := by decide +kernel
theorem dX0_notedRun_4 : decode cX0_notedRun 4 = .ok (.iconst 1, 1) := by decide +kernel
theorem dX0_notedRun_5 : decode cX0_notedRun 5 = .ok (.iand, 1) := by decide +kernel
theorem dX0_notedRun_6 : decode cX0_notedRun 6 = .ok (.ifCond .eq 7, 3) := by decide +kernel
theorem dX0_notedRun_9 : decode cX0_notedRun 9 = .ok (.iconst 1, 1) := by decide +kernel
theorem dX0_notedRun_10 : decode cX0_notedRun 10 = .ok (.goto 4, 3) := by decide +kernel
theorem dX0_notedRun_13 : decode cX0_notedRun 13 = .ok (.iconst 0, 1) := by decide +kernel
theorem dX0_notedRun_14 : decode cX0_notedRun 14 = .ok (.ireturn, 1) := by decide +kernel
theorem dX0_requireIndex_0 : decode cX0_requireIndex 0 = .ok (.iload_n 0, 1) := by decide +kernel
theorem dX0_requireIndex_1 : decode cX0_requireIndex 1 = .ok (.iload_n 1, 1) := by decide +kernel
theorem dX0_requireIndex_2 : decode cX0_requireIndex 2 = .ok (.if_icmp .lt 8, 3) := by decide +kernel
theorem dX0_requireIndex_5 : decode cX0_requireIndex 5 = .ok (.iload_n 0, 1) := by decide +kernel
theorem dX0_requireIndex_6 : decode cX0_requireIndex 6 = .ok (.iload_n 2, 1) := by decide +kernel
theorem dX0_requireIndex_7 : decode cX0_requireIndex 7 = .ok (.if_icmp .le 13, 3) := by decide +kernel
theorem dX0_requireIndex_10 : decode cX0_requireIndex 10 = .ok (.new 139, 3) := by decide +kernel
theorem dX0_requireIndex_13 : decode cX0_requireIndex 13 = .ok (.dup, 1) := by decide +kernel
theorem dX0_requireIndex_14 : decode cX0_requireIndex 14 = .ok (.ldc 141, 2) := by decide +kernel
theorem dX0_requireIndex_16 : decode cX0_requireIndex 16 = .ok (.invokespecial 143, 3) := by decide +kernel
theorem dX0_requireIndex_19 : decode cX0_requireIndex 19 = .ok (.athrow, 1) := by decide +kernel
theorem dX0_requireIndex_20 : decode cX0_requireIndex 20 = .ok (.return_, 1) := by decide +kernel
theorem dX0_requireRange_0 : decode cX0_requireRange 0 = .ok (.iload_n 0, 1) := by decide +kernel
theorem dX0_requireRange_1 : decode cX0_requireRange 1 = .ok (.iload_n 1, 1) := by decide +kernel
theorem dX0_requireRange_2 : decode cX0_requireRange 2 = .ok (.if_icmp .lt 8, 3) := by decide +kernel
theorem dX0_requireRange_5 : decode cX0_requireRange 5 = .ok (.iload_n 0, 1) := by decide +kernel
theorem dX0_requireRange_6 : decode cX0_requireRange 6 = .ok (.iload_n 2, 1) := by decide +kernel
theorem dX0_requireRange_7 : decode cX0_requireRange 7 = .ok (.if_icmp .le 13, 3) := by decide +kernel
theorem dX0_requireRange_10 : decode cX0_requireRange 10 = .ok (.new 144, 3) := by decide +kernel
theorem dX0_requireRange_13 : decode cX0_requireRange 13 = .ok (.dup, 1) := by decide +kernel
theorem dX0_requireRange_14 : decode cX0_requireRange 14 = .ok (.ldc 146, 2) := by decide +kernel
theorem dX0_requireRange_16 : decode cX0_requireRange 16 = .ok (.invokespecial 148, 3) := by decide +kernel
theorem dX0_requireRange_19 : decode cX0_requireRange 19 = .ok (.athrow, 1) := by decide +kernel
theorem dX0_requireRange_20 : decode cX0_requireRange 20 = .ok (.return_, 1) := by decide +kernel
theorem dX0_bitsOf_0 : decode cX0_bitsOf 0 = .ok (.fload_n 0, 1) := by decide +kernel
theorem dX0_bitsOf_1 : decode cX0_bitsOf 1 = .ok (.fconst 0, 1) := by decide +kernel
theorem dX0_bitsOf_2 : decode cX0_bitsOf 2 = .ok (.fcmp .l, 1) := by decide +kernel
theorem dX0_bitsOf_3 : decode cX0_bitsOf 3 = .ok (.ifCond .ne 5, 3) := by decide +kernel
theorem dX0_bitsOf_6 : decode cX0_bitsOf 6 = .ok (.iconst 0, 1) := by decide +kernel
theorem dX0_bitsOf_7 : decode cX0_bitsOf 7 = .ok (.ireturn, 1) := by decide +kernel
theorem dX0_bitsOf_8 : decode cX0_bitsOf 8 = .ok (.fload_n 0, 1) := by decide +kernel
theorem dX0_bitsOf_9 : decode cX0_bitsOf 9 = .ok (.fconst 0, 1) := by decide +kernel
theorem dX0_bitsOf_10 : decode cX0_bitsOf 10 = .ok (.fcmp .g, 1) := by decide +kernel
theorem dX0_bitsOf_11 : decode cX0_bitsOf 11 = .ok (.ifCond .ge 8, 3) := by decide +kernel
theorem dX0_bitsOf_14 : decode cX0_bitsOf 14 = .ok (.fload_n 0, 1) := by decide +kernel
theorem dX0_bitsOf_15 : decode cX0_bitsOf 15 = .ok (.fneg, 1) := by decide +kernel
theorem dX0_bitsOf_16 : decode cX0_bitsOf 16 = .ok (.goto 4, 3) := by decide +kernel
theorem dX0_bitsOf_19 : decode cX0_bitsOf 19 = .ok (.fload_n 0, 1) := by decide +kernel
theorem dX0_bitsOf_20 : decode cX0_bitsOf 20 = .ok (.fstore_n 1, 1) := by decide +kernel
theorem dX0_bitsOf_21 : decode cX0_bitsOf 21 = .ok (.bipush 127, 2) := by decide +kernel
theorem dX0_bitsOf_23 : decode cX0_bitsOf 23 = .ok (.istore_n 2, 1) := by decide +kernel
theorem dX0_bitsOf_24 : decode cX0_bitsOf 24 = .ok (.iconst 0, 1) := by decide +kernel
theorem dX0_bitsOf_25 : decode cX0_bitsOf 25 = .ok (.istore_n 3, 1) := by decide +kernel
theorem dX0_bitsOf_26 : decode cX0_bitsOf 26 = .ok (.iload_n 3, 1) := by decide +kernel
theorem dX0_bitsOf_27 : decode cX0_bitsOf 27 = .ok (.bipush 127, 2) := by decide +kernel
theorem dX0_bitsOf_29 : decode cX0_bitsOf 29 = .ok (.if_icmp .ge 23, 3) := by decide +kernel
theorem dX0_bitsOf_32 : decode cX0_bitsOf 32 = .ok (.fload_n 1, 1) := by decide +kernel
theorem dX0_bitsOf_33 : decode cX0_bitsOf 33 = .ok (.fconst 2, 1) := by decide +kernel
theorem dX0_bitsOf_34 : decode cX0_bitsOf 34 = .ok (.fcmp .l, 1) := by decide +kernel
theorem dX0_bitsOf_35 : decode cX0_bitsOf 35 = .ok (.ifCond .lt 17, 3) := by decide +kernel
theorem dX0_bitsOf_38 : decode cX0_bitsOf 38 = .ok (.fload_n 1, 1) := by decide +kernel
theorem dX0_bitsOf_39 : decode cX0_bitsOf 39 = .ok (.ldc 128, 2) := by decide +kernel
theorem dX0_bitsOf_41 : decode cX0_bitsOf 41 = .ok (.fmul, 1) := by decide +kernel
theorem dX0_bitsOf_42 : decode cX0_bitsOf 42 = .ok (.fstore_n 1, 1) := by decide +kernel
theorem dX0_bitsOf_43 : decode cX0_bitsOf 43 = .ok (.iinc 2 1, 3) := by decide +kernel
theorem dX0_bitsOf_46 : decode cX0_bitsOf 46 = .ok (.iinc 3 1, 3) := by decide +kernel
theorem dX0_bitsOf_49 : decode cX0_bitsOf 49 = .ok (.goto (-23), 3) := by decide +kernel
theorem dX0_bitsOf_52 : decode cX0_bitsOf 52 = .ok (.iconst 0, 1) := by decide +kernel
theorem dX0_bitsOf_53 : decode cX0_bitsOf 53 = .ok (.istore_n 3, 1) := by decide +kernel
theorem dX0_bitsOf_54 : decode cX0_bitsOf 54 = .ok (.iload_n 3, 1) := by decide +kernel
theorem dX0_bitsOf_55 : decode cX0_bitsOf 55 = .ok (.bipush 127, 2) := by decide +kernel
theorem dX0_bitsOf_57 : decode cX0_bitsOf 57 = .ok (.if_icmp .ge 22, 3) := by decide +kernel
theorem dX0_bitsOf_60 : decode cX0_bitsOf 60 = .ok (.fload_n 1, 1) := by decide +kernel
theorem dX0_bitsOf_61 : decode cX0_bitsOf 61 = .ok (.fconst 1, 1) := by decide +kernel
theorem dX0_bitsOf_62 : decode cX0_bitsOf 62 = .ok (.fcmp .g, 1) := by decide +kernel
theorem dX0_bitsOf_63 : decode cX0_bitsOf 63 = .ok (.ifCond .ge 16, 3) := by decide +kernel
theorem dX0_bitsOf_66 : decode cX0_bitsOf 66 = .ok (.fload_n 1, 1) := by decide +kernel
theorem dX0_bitsOf_67 : decode cX0_bitsOf 67 = .ok (.fconst 2, 1) := by decide +kernel
theorem dX0_bitsOf_68 : decode cX0_bitsOf 68 = .ok (.fmul, 1) := by decide +kernel
theorem dX0_bitsOf_69 : decode cX0_bitsOf 69 = .ok (.fstore_n 1, 1) := by decide +kernel
theorem dX0_bitsOf_70 : decode cX0_bitsOf 70 = .ok (.iinc 2 (-1), 3) := by decide +kernel
theorem dX0_bitsOf_73 : decode cX0_bitsOf 73 = .ok (.iinc 3 1, 3) := by decide +kernel
theorem dX0_bitsOf_76 : decode cX0_bitsOf 76 = .ok (.goto (-22), 3) := by decide +kernel
theorem dX0_bitsOf_79 : decode cX0_bitsOf 79 = .ok (.fload_n 1, 1) := by decide +kernel
theorem dX0_bitsOf_80 : decode cX0_bitsOf 80 = .ok (.fconst 1, 1) := by decide +kernel
theorem dX0_bitsOf_81 : decode cX0_bitsOf 81 = .ok (.fsub, 1) := by decide +kernel
theorem dX0_bitsOf_82 : decode cX0_bitsOf 82 = .ok (.ldc 149, 2) := by decide +kernel
theorem dX0_bitsOf_84 : decode cX0_bitsOf 84 = .ok (.fmul, 1) := by decide +kernel
theorem dX0_bitsOf_85 : decode cX0_bitsOf 85 = .ok (.f2i, 1) := by decide +kernel
theorem dX0_bitsOf_86 : decode cX0_bitsOf 86 = .ok (.istore_n 3, 1) := by decide +kernel
theorem dX0_bitsOf_87 : decode cX0_bitsOf 87 = .ok (.iload_n 2, 1) := by decide +kernel
theorem dX0_bitsOf_88 : decode cX0_bitsOf 88 = .ok (.bipush 23, 2) := by decide +kernel
theorem dX0_bitsOf_90 : decode cX0_bitsOf 90 = .ok (.ishl, 1) := by decide +kernel
theorem dX0_bitsOf_91 : decode cX0_bitsOf 91 = .ok (.iload_n 3, 1) := by decide +kernel
theorem dX0_bitsOf_92 : decode cX0_bitsOf 92 = .ok (.ior, 1) := by decide +kernel
theorem dX0_bitsOf_93 : decode cX0_bitsOf 93 = .ok (.istore 4, 2) := by decide +kernel
theorem dX0_bitsOf_95 : decode cX0_bitsOf 95 = .ok (.fload_n 0, 1) := by decide +kernel
theorem dX0_bitsOf_96 : decode cX0_bitsOf 96 = .ok (.fconst 0, 1) := by decide +kernel
theorem dX0_bitsOf_97 : decode cX0_bitsOf 97 = .ok (.fcmp .g, 1) := by decide +kernel
theorem dX0_bitsOf_98 : decode cX0_bitsOf 98 = .ok (.ifCond .ge 11, 3) := by decide +kernel
theorem dX0_bitsOf_101 : decode cX0_bitsOf 101 = .ok (.iload 4, 2) := by decide +kernel
theorem dX0_bitsOf_103 : decode cX0_bitsOf 103 = .ok (.ldc 150, 2) := by decide +kernel
theorem dX0_bitsOf_105 : decode cX0_bitsOf 105 = .ok (.ior, 1) := by decide +kernel
theorem dX0_bitsOf_106 : decode cX0_bitsOf 106 = .ok (.goto 5, 3) := by decide +kernel
theorem dX0_bitsOf_109 : decode cX0_bitsOf 109 = .ok (.iload 4, 2) := by decide +kernel
theorem dX0_bitsOf_111 : decode cX0_bitsOf 111 = .ok (.ireturn, 1) := by decide +kernel
theorem dJ9_abs_0f7a4_0 : decode cJ9_abs_0f7a4 0 = .ok (.iload_n 0, 1) := by decide +kernel
theorem dJ9_abs_0f7a4_1 : decode cJ9_abs_0f7a4 1 = .ok (.ifCond .ge 8, 3) := by decide +kernel
theorem dJ9_abs_0f7a4_4 : decode cJ9_abs_0f7a4 4 = .ok (.iload_n 0, 1) := by decide +kernel
theorem dJ9_abs_0f7a4_5 : decode cJ9_abs_0f7a4 5 = .ok (.ineg, 1) := by decide +kernel
theorem dJ9_abs_0f7a4_6 : decode cJ9_abs_0f7a4 6 = .ok (.goto 4, 3) := by decide +kernel
theorem dJ9_abs_0f7a4_9 : decode cJ9_abs_0f7a4 9 = .ok (.iload_n 0, 1) := by decide +kernel
theorem dJ9_abs_0f7a4_10 : decode cJ9_abs_0f7a4 10 = .ok (.ireturn, 1) := by decide +kernel
theorem dJ9_max_7cf53_0 : decode cJ9_max_7cf53 0 = .ok (.iload_n 0, 1) := by decide +kernel
theorem dJ9_max_7cf53_1 : decode cJ9_max_7cf53 1 = .ok (.iload_n 1, 1) := by decide +kernel
theorem dJ9_max_7cf53_2 : decode cJ9_max_7cf53 2 = .ok (.if_icmp .lt 7, 3) := by decide +kernel
theorem dJ9_max_7cf53_5 : decode cJ9_max_7cf53 5 = .ok (.iload_n 0, 1) := by decide +kernel
theorem dJ9_max_7cf53_6 : decode cJ9_max_7cf53 6 = .ok (.goto 4, 3) := by decide +kernel
theorem dJ9_max_7cf53_9 : decode cJ9_max_7cf53 9 = .ok (.iload_n 1, 1) := by decide +kernel
theorem dJ9_max_7cf53_10 : decode cJ9_max_7cf53 10 = .ok (.ireturn, 1) := by decide +kernel
theorem dJ9_min_7cf53_0 : decode cJ9_min_7cf53 0 = .ok (.iload_n 0, 1) := by decide +kernel
theorem dJ9_min_7cf53_1 : decode cJ9_min_7cf53 1 = .ok (.iload_n 1, 1) := by decide +kernel
theorem dJ9_min_7cf53_2 : decode cJ9_min_7cf53 2 = .ok (.if_icmp .gt 7, 3) := by decide +kernel
theorem dJ9_min_7cf53_5 : decode cJ9_min_7cf53 5 = .ok (.iload_n 0, 1) := by decide +kernel
theorem dJ9_min_7cf53_6 : decode cJ9_min_7cf53 6 = .ok (.goto 4, 3) := by decide +kernel
theorem dJ9_min_7cf53_9 : decode cJ9_min_7cf53 9 = .ok (.iload_n 1, 1) := by decide +kernel
theorem dJ9_min_7cf53_10 : decode cJ9_min_7cf53 10 = .ok (.ireturn, 1) := by decide +kernel
theorem dL_cell_0 : decode cL_cell 0 = .ok (.iload_n 1, 1) := by decide +kernel
theorem dL_cell_1 : decode cL_cell 1 = .ok (.aload_n 0, 1) := by decide +kernel
theorem dL_cell_2 : decode cL_cell 2 = .ok (.arraylength, 1) := by decide +kernel
theorem dL_cell_3 : decode cL_cell 3 = .ok (.if_icmp .ge 9, 3) := by decide +kernel
theorem dL_cell_6 : decode cL_cell 6 = .ok (.aload_n 0, 1) := by decide +kernel
theorem dL_cell_7 : decode cL_cell 7 = .ok (.iload_n 1, 1) := by decide +kernel
theorem dL_cell_8 : decode cL_cell 8 = .ok (.iaload, 1) := by decide +kernel
theorem dL_cell_9 : decode cL_cell 9 = .ok (.goto 12, 3) := by decide +kernel
theorem dL_cell_12 : decode cL_cell 12 = .ok (.ldc 7, 2) := by decide +kernel
theorem dL_cell_14 : decode cL_cell 14 = .ok (.iload_n 1, 1) := by decide +kernel
theorem dL_cell_15 : decode cL_cell 15 = .ok (.iconst 1, 1) := by decide +kernel
theorem dL_cell_16 : decode cL_cell 16 = .ok (.iadd, 1) := by decide +kernel
theorem dL_cell_17 : decode cL_cell 17 = .ok (.imul, 1) := by decide +kernel
theorem dL_cell_18 : decode cL_cell 18 = .ok (.ldc 8, 2) := by decide +kernel
theorem dL_cell_20 : decode cL_cell 20 = .ok (.iadd, 1) := by decide +kernel
theorem dL_cell_21 : decode cL_cell 21 = .ok (.ireturn, 1) := by decide +kernel
theorem dL_low_0 : decode cL_low 0 = .ok (.iload_n 0, 1) := by decide +kernel
theorem dL_low_1 : decode cL_low 1 = .ok (.ldc 9, 2) := by decide +kernel
theorem dL_low_3 : decode cL_low 3 = .ok (.iand, 1) := by decide +kernel
theorem dL_low_4 : decode cL_low 4 = .ok (.iload_n 1, 1) := by decide +kernel
theorem dL_low_5 : decode cL_low 5 = .ok (.irem, 1) := by decide +kernel
theorem dL_low_6 : decode cL_low 6 = .ok (.ireturn, 1) := by decide +kernel
theorem dL_bits_0 : decode cL_bits 0 = .ok (.iload_n 0, 1) := by decide +kernel
theorem dL_bits_1 : decode cL_bits 1 = .ok (.ifCond .ne 5, 3) := by decide +kernel
theorem dL_bits_4 : decode cL_bits 4 = .ok (.iconst 0, 1) := by decide +kernel
theorem dL_bits_5 : decode cL_bits 5 = .ok (.ireturn, 1) := by decide +kernel
theorem dL_bits_6 : decode cL_bits 6 = .ok (.iload_n 0, 1) := by decide +kernel
theorem dL_bits_7 : decode cL_bits 7 = .ok (.ifCond .ge 8, 3) := by decide +kernel
theorem dL_bits_10 : decode cL_bits 10 = .ok (.iload_n 0, 1) := by decide +kernel
theorem dL_bits_11 : decode cL_bits 11 = .ok (.ineg, 1) := by decide +kernel
theorem dL_bits_12 : decode cL_bits 12 = .ok (.goto 4, 3) := by decide +kernel
theorem dL_bits_15 : decode cL_bits 15 = .ok (.iload_n 0, 1) := by decide +kernel
theorem dL_bits_16 : decode cL_bits 16 = .ok (.istore_n 1, 1) := by decide +kernel
theorem dL_bits_17 : decode cL_bits 17 = .ok (.iconst 0, 1) := by decide +kernel
theorem dL_bits_18 : decode cL_bits 18 = .ok (.istore_n 2, 1) := by decide +kernel
theorem dL_bits_19 : decode cL_bits 19 = .ok (.iload_n 1, 1) := by decide +kernel
theorem dL_bits_20 : decode cL_bits 20 = .ok (.iload_n 2, 1) := by decide +kernel
theorem dL_bits_21 : decode cL_bits 21 = .ok (.iconst 1, 1) := by decide +kernel
theorem dL_bits_22 : decode cL_bits 22 = .ok (.iadd, 1) := by decide +kernel
theorem dL_bits_23 : decode cL_bits 23 = .ok (.ishr, 1) := by decide +kernel
theorem dL_bits_24 : decode cL_bits 24 = .ok (.ifCond .le 9, 3) := by decide +kernel
theorem dL_bits_27 : decode cL_bits 27 = .ok (.iinc 2 1, 3) := by decide +kernel
theorem dL_bits_30 : decode cL_bits 30 = .ok (.goto (-11), 3) := by decide +kernel
theorem dL_bits_33 : decode cL_bits 33 = .ok (.iload_n 2, 1) := by decide +kernel
theorem dL_bits_34 : decode cL_bits 34 = .ok (.bipush 24, 2) := by decide +kernel
theorem dL_bits_36 : decode cL_bits 36 = .ok (.if_icmp .ge 16, 3) := by decide +kernel
theorem dL_bits_39 : decode cL_bits 39 = .ok (.iload_n 1, 1) := by decide +kernel
theorem dL_bits_40 : decode cL_bits 40 = .ok (.iconst 1, 1) := by decide +kernel
theorem dL_bits_41 : decode cL_bits 41 = .ok (.iload_n 2, 1) := by decide +kernel
theorem dL_bits_42 : decode cL_bits 42 = .ok (.ishl, 1) := by decide +kernel
theorem dL_bits_43 : decode cL_bits 43 = .ok (.isub, 1) := by decide +kernel
theorem dL_bits_44 : decode cL_bits 44 = .ok (.bipush 23, 2) := by decide +kernel
theorem dL_bits_46 : decode cL_bits 46 = .ok (.iload_n 2, 1) := by decide +kernel
theorem dL_bits_47 : decode cL_bits 47 = .ok (.isub, 1) := by decide +kernel
theorem dL_bits_48 : decode cL_bits 48 = .ok (.ishl, 1) := by decide +kernel
theorem dL_bits_49 : decode cL_bits 49 = .ok (.goto 4, 3) := by decide +kernel
theorem dL_bits_52 : decode cL_bits 52 = .ok (.iconst 0, 1) := by decide +kernel
theorem dL_bits_53 : decode cL_bits 53 = .ok (.istore_n 3, 1) := by decide +kernel
theorem dL_bits_54 : decode cL_bits 54 = .ok (.iload_n 0, 1) := by decide +kernel
theorem dL_bits_55 : decode cL_bits 55 = .ok (.ifCond .ge 8, 3) := by decide +kernel
theorem dL_bits_58 : decode cL_bits 58 = .ok (.ldc 10, 2) := by decide +kernel
theorem dL_bits_60 : decode cL_bits 60 = .ok (.goto 4, 3) := by decide +kernel
theorem dL_bits_63 : decode cL_bits 63 = .ok (.iconst 0, 1) := by decide +kernel
theorem dL_bits_64 : decode cL_bits 64 = .ok (.bipush 126, 2) := by decide +kernel
theorem dL_bits_66 : decode cL_bits 66 = .ok (.iload_n 2, 1) := by decide +kernel
theorem dL_bits_67 : decode cL_bits 67 = .ok (.iadd, 1) := by decide +kernel
theorem dL_bits_68 : decode cL_bits 68 = .ok (.bipush 23, 2) := by decide +kernel
theorem dL_bits_70 : decode cL_bits 70 = .ok (.ishl, 1) := by decide +kernel
theorem dL_bits_71 : decode cL_bits 71 = .ok (.iadd, 1) := by decide +kernel
theorem dL_bits_72 : decode cL_bits 72 = .ok (.iload_n 3, 1) := by decide +kernel
theorem dL_bits_73 : decode cL_bits 73 = .ok (.iadd, 1) := by decide +kernel
theorem dL_bits_74 : decode cL_bits 74 = .ok (.ireturn, 1) := by decide +kernel
abbrev vwCl : List vw_C := [(RX0, TX0, 15)]
