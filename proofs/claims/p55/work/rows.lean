section
-- ===== PART A: goes FIRST, ahead of the names: the tables' words, and 'selects' of the private methods out of them =====
/-- a private method of a class that the tables say can be made, by its rows of tables_1 -/
def lw_okq (q : MethodName × Nat) : Prop := (q.1.cls ≠ "java/lang/invoke/MethodHandle" ∧ q.1.cls ≠ "java/lang/invoke/VarHandle") ∧ Cond.instantiable q.1.cls q.2 ∈ tables_1 ∧ Cond.privateMethod q.1 ∈ tables_1 ∧ Cond.instanceMethod q.1 ∈ tables_1
theorem lw_p0 : lw_okq (⟨"Foldrose", "codeOf", "(C)I"⟩, 18) := ⟨⟨by decide +kernel, by decide +kernel⟩, List.mem_of_getElem? (i := 24) (by decide +kernel), List.mem_of_getElem? (i := 338) (by decide +kernel), List.mem_of_getElem? (i := 339) (by decide +kernel)⟩
theorem lw_p1 : lw_okq (⟨"java/lang/Throwable", "fillInStackTrace", "(I)Ljava/lang/Throwable;"⟩, 6) := ⟨⟨by decide +kernel, by decide +kernel⟩, List.mem_of_getElem? (i := 384) (by decide +kernel), List.mem_of_getElem? (i := 382) (by decide +kernel), List.mem_of_getElem? (i := 383) (by decide +kernel)⟩
theorem lw_p2 : lw_okq (⟨"Foldrose", "wordAt", "(I)LFoldrose$Row;"⟩, 18) := ⟨⟨by decide +kernel, by decide +kernel⟩, List.mem_of_getElem? (i := 24) (by decide +kernel), List.mem_of_getElem? (i := 462) (by decide +kernel), List.mem_of_getElem? (i := 463) (by decide +kernel)⟩
theorem lw_p3 : lw_okq (⟨"Foldrose", "keep", "(LFoldrose$Row;)I"⟩, 18) := ⟨⟨by decide +kernel, by decide +kernel⟩, List.mem_of_getElem? (i := 24) (by decide +kernel), List.mem_of_getElem? (i := 535) (by decide +kernel), List.mem_of_getElem? (i := 536) (by decide +kernel)⟩
theorem lw_p4 : lw_okq (⟨"Foldrose$Row", "repeats", "(III)Z"⟩, 2) := ⟨⟨by decide +kernel, by decide +kernel⟩, List.mem_of_getElem? (i := 37) (by decide +kernel), List.mem_of_getElem? (i := 592) (by decide +kernel), List.mem_of_getElem? (i := 593) (by decide +kernel)⟩
theorem lw_p5 : lw_okq (⟨"Foldrose$Row", "isTurned", "(ILFoldrose$Row;III)Z"⟩, 2) := ⟨⟨by decide +kernel, by decide +kernel⟩, List.mem_of_getElem? (i := 37) (by decide +kernel), List.mem_of_getElem? (i := 619) (by decide +kernel), List.mem_of_getElem? (i := 620) (by decide +kernel)⟩
theorem lw_p6 : lw_okq (⟨"Foldrose", "setConjugator", "(LFoldrose$Row;LFoldrose$Row;LFoldrose$Row;IZ)V"⟩, 18) := ⟨⟨by decide +kernel, by decide +kernel⟩, List.mem_of_getElem? (i := 24) (by decide +kernel), List.mem_of_getElem? (i := 624) (by decide +kernel), List.mem_of_getElem? (i := 625) (by decide +kernel)⟩
def lw_privs_1 : List (MethodName × Nat) := [(⟨"Foldrose", "codeOf", "(C)I"⟩, 18), (⟨"java/lang/Throwable", "fillInStackTrace", "(I)Ljava/lang/Throwable;"⟩, 6), (⟨"Foldrose", "wordAt", "(I)LFoldrose$Row;"⟩, 18), (⟨"Foldrose", "keep", "(LFoldrose$Row;)I"⟩, 18), (⟨"Foldrose$Row", "repeats", "(III)Z"⟩, 2), (⟨"Foldrose$Row", "isTurned", "(ILFoldrose$Row;III)Z"⟩, 2), (⟨"Foldrose", "setConjugator", "(LFoldrose$Row;LFoldrose$Row;LFoldrose$Row;IZ)V"⟩, 18)]
theorem lw_r1 : ∀ q ∈ lw_privs_1, lw_okq q := List.forall_mem_cons.mpr ⟨lw_p0, List.forall_mem_cons.mpr ⟨lw_p1, List.forall_mem_cons.mpr ⟨lw_p2, List.forall_mem_cons.mpr ⟨lw_p3, List.forall_mem_cons.mpr ⟨lw_p4, List.forall_mem_cons.mpr ⟨lw_p5, List.forall_mem_cons.mpr ⟨lw_p6, fun _ h => absurd h List.not_mem_nil⟩⟩⟩⟩⟩⟩⟩
def lw_privs : List (MethodName × Nat) := lw_privs_1
def lw_tbl : List Cond := k2_sels lw_privs ++ tables_1
theorem lw_privs_ok : ∀ q ∈ lw_privs, lw_okq q := lw_r1
end
section
/-! ===== BEGIN words of one list among another's, by their places ===== -/
theorem goodIn_r {big : List Cond} (ws : List Cond) (ps : List Nat) (hp : ws = ps.filterMap (fun i => big[i]?)) (h : ws.all goodWord = true) : GoodIn big ws := by
  intro w hw
  have h1 := List.all_eq_true.mp h w hw
  rw [hp] at hw
  obtain ⟨i, -, hi⟩ := List.mem_filterMap.mp hw
  have hm : w ∈ big := by first | exact List.mem_of_getElem? hi | exact List.getElem?_mem hi
  exact ⟨hm, good_of_word h1⟩
theorem goodIn_app {big a b : List Cond} (ha : GoodIn big a) (hb : GoodIn big b) : GoodIn big (a ++ b) := fun w h => (List.mem_append.mp h).elim (ha w) (hb w)
theorem goodIn_ca {big a b : List Cond} {c : Cond} (ha : GoodIn big (c :: a)) (hb : GoodIn big b) : GoodIn big (c :: (a ++ b)) := fun w h => (List.mem_cons.mp h).elim (fun e => ha w (List.mem_cons.mpr (Or.inl e))) (fun h => (List.mem_append.mp h).elim (fun h => ha w (List.mem_cons.mpr (Or.inr h))) (hb w))
theorem goodIn_sub {big ws : List Cond} (hm : ∀ w ∈ ws, w ∈ big) (h : ws.all goodWord = true) : GoodIn big ws := fun w hw => ⟨hm w hw, good_of_word (List.all_eq_true.mp h w hw)⟩
/-! ===== END ===== -/

/-! ===== BEGIN exceptions that leave a method, and their catching by the caller (launches without stack traces) ===== -/
section VXA
/-! The laws vx_back, vx_callV, vx_callS, vx_callSW, vx_throw0, vx_throwS follow proofs of the library, with one case more: JvmDerived/Free/Laws.lean (Back.of_free), Shelf42/LK1.lean (callV, callS), Shelf/KitTraced.lean (throwNew0V, throwNewS). -/
/-- where a method has thrown q: the class by its name, the cell, what was written, the world -/
def vx_T (XC : String → State → State → Prop) (st : State) (q : Addr) (t : State) (mc ms : Nat) (free : Addr → Prop) : Prop :=
  ∃ (E : String) (ce : Cell) (L : List Loc), XC E st t ∧ t.heap[q]? = some ce ∧ ce.vm = .none ∧ st.vm.findClass E = some ce.cls ∧ st.WarmedH t.vm ∧ st.sameButNew ({ t with vm := st.vm } : State) L mc ms ∧ ∀ z ∈ L, free z.base
def vx_Q (Qc : Array Value → State → Outcome → State → Prop) (XC : String → State → State → Prop) (mc ms : Nat) (free : Addr → Prop) : Array Value → State → Outcome → State → Prop := fun a st o t =>
  (Qc a st o t ∧ ∃ L, FrameEnd st o t L mc ms ∧ ∀ q ∈ L, free q.base) ∨ ∃ q, o = .threw q ∧ vx_T XC st q t mc ms free
/-- a callee that returns or throws -/
def vx_Met (l : Launch) (y : MethodName) (ws : List Cond) (rm : Room) (Pc : Array Value → State → Prop) (Qc : Array Value → State → Outcome → State → Prop) (XC : String → State → State → Prop) (mc ms : Nat) (free : Addr → Prop) : Prop :=
  MetFree l y (headSpec ws rm) Pc (fun _ _ _ _ _ => True) (vx_Q Qc XC mc ms free)
def vx_Post (XC : String → State → State → Prop) (mc ms : Nat) (free : Addr → Prop) : Pt → Array Value → Addr → Pt → Prop := fun A a q B =>
  ∃ (g : JFrame) (mk : MethodId) (t : State) (L : List Loc) (E : String) (ce : Cell), B.U.heap = t.heap ∧ B.U.vm = t.vm ∧ XC E (A.U.calling g mk a) t ∧ t.heap[q]? = some ce ∧ ce.vm = .none ∧ A.U.vm.findClass E = some ce.cls ∧ B.locs = A.locs ++ L ∧ (∀ z ∈ L, free z.base) ∧ B.cells = A.cells + mc ∧ B.slots = A.slots + ms
def vx_Back (l : Launch) (R : Room) (p : Program) (e : Env) (below : List Frame) (s : State) (sargs : Array Value) (y : MethodName) (len W9 : Nat)
    (Pre : Pt → Array Value → Prop) (Post : Pt → Array Value → Option Value → Pt → Prop) (PostX : Pt → Array Value → Addr → Pt → Prop) : Prop :=
  ∀ (m : MethodId) (meth : Method) (c : Code) (A : Pt) (g : JFrame) (ig : Instr) (mk : MethodId) (a : Array Value),
    Stand p l e R s m sargs below meth c A.U A.locs A.cells A.slots → g.method = m → g.locals.size = c.maxLocals → decode c.code g.pc = .ok (ig, len) →
    2 * g.monitorRoom + (g.stack.map fun v => v.category).sum ≤ W9 → A.U.methodNamed? y = some mk → Pre A a →
    (∃ (v : Option Value) (B : Pt), Stand p l e R s m sargs below meth c B.U B.locs B.cells B.slots ∧ Post A a v B ∧
      Steps p.tables e below (doInvoke e (A.U.setTop g) [] mk a).1 (B.U.setTop { g with pc := g.pc + len, stack := v.toList ++ g.stack })) ∨
    (∃ (q : Addr) (B : Pt), Stand p l e R s m sargs below meth c B.U B.locs B.cells B.slots ∧ PostX A a q B ∧
      Steps p.tables e below (doInvoke e (A.U.setTop g) [] mk a).1 ((B.U.setTop g).pushFrame (.throwing q)))
section Payer
variable {l : Launch} {R : Room} {p : Program} {e : Env} {below : List Frame} {s : State} {sargs : Array Value} {y : MethodName} {len W9 : Nat}
theorem vx_back {ws : List Cond} {rm : Room} {Pc : Array Value → State → Prop} {Qc : Array Value → State → Outcome → State → Prop} {XC : String → State → State → Prop} {mc ms : Nat} {free : Addr → Prop} {bytes : ByteArray} {maxL : Nat} {ret : Option FieldType}
    (hM : vx_Met l y ws rm Pc Qc XC mc ms free) (hblind : FrameBlind Pc) (hrc : rm.cells = mc) (hrs : rm.slots = ms)
    (hframes : rm.frames + 1 ≤ R.frames) (hlocals : W9 + (maxL + 11) + rm.locals ≤ R.locals)
    (hws : ∀ w ∈ ws, ∀ a' U, s.WarmedH U.vm → w.before a' U = true) (hcode : Cond.code y bytes maxL ret ∈ ws) (hinit : ∀ a' U, s.WarmedH U.vm → (Cond.initialized y.cls).before a' U = true) :
    vx_Back l R p e below s sargs y len W9 (PreOf R mc ms Pc) (PostOf Qc mc ms free) (vx_Post XC mc ms free) := by
  intro m meth c A g ig mk a X hg hsize hdg hW hn hp
  have h1 : (headSpec ws rm).pre.before a A.U = true := atoms_intro fun w hw => hws w hw _ _ X.warmed
  have h2 : (Cond.code y bytes maxL ret).before a A.U = true := hws _ hcode _ _ X.warmed
  have h3 : (Cond.initialized y.cls).before a A.U = true := hinit _ _ X.warmed
  have h4 : A.cells + (headSpec ws rm).room.cells ≤ R.cells := by rw [show (headSpec ws rm).room.cells = mc from hrc]; exact hp.1
  have h5 : A.slots + (headSpec ws rm).room.slots ≤ R.slots := by rw [show (headSpec ws rm).room.slots = ms from hrs]; exact hp.2.1
  have hPc : Pc a (A.U.calling g mk a) := hblind _ _ _ _ hp.2.2
  obtain ⟨U, Ls, c0, s0⟩ := A
  dsimp only [Pt.U, Pt.locs, Pt.cells, Pt.slots] at h1 h2 h3 h4 h5 X hn hPc ⊢
  obtain ⟨methY, cY, hmY, hcY, -, hlY, -, -, -, -⟩ := Cond.code_spec hn h2
  obtain ⟨kY, hkY, -⟩ := className_of_methodNamed hn
  have hinitY : kY.init = .initialized := Cond.initialized_spec (findClass_of_methodNamed hn) hkY h3
  have h : At U g.method c below := by rw [hg]; exact X.here
  have hlocals9 : W9 + (maxL + 11) + (headSpec ws rm).room.locals ≤ R.locals := hlocals
  have happ : (headSpec ws rm).appliesLoose y e.platform (U.calling g mk a) = true :=
    Spec.appliesLoose_calling (g := g) h hdg hn hkY hinitY
      (X.room_calling (g := g) (R' := (headSpec ws rm).room) hsize hmY hcY hframes (by rw [hlY]; omega) h4 h5) h1
  obtain ⟨mid, hmid⟩ := h.above
  have hfr : (U.setTop g).frames = (.java g :: mid) ++ below := by rw [State.frames_setTop' g h.top, hmid]; rfl
  obtain ⟨o, s₂, hsteps, -, hend, hq⟩ := Steps.callFree hM p X.admits X.cas X.clock (acts := []) hfr happ hPc trivial
  have hq' : vx_Q Qc XC mc ms free a (U.calling g mk a) o s₂ := hq
  rw [State.frames_setTop' g h.top] at hend
  obtain ⟨g₀, hg0⟩ := Option.isSome_iff_exists.mp h.top
  obtain ⟨r, hr⟩ := State.topJava?_eq_some.mp hg0
  have hr' : (({ U with heap := s₂.heap, slotsUsed := s₂.slotsUsed } : State).setVm s₂.vm).frames = .java g₀ :: r := hr
  rcases hq' with ⟨hqc, L, hfe, hL⟩ | ⟨q, rfl, E, ce, L, hx, hce, hcv, hcl, hW₂, hsm, hL⟩
  · obtain ⟨⟨v, rfl⟩, hW₂, e2, q2, q3, q4, q5, q6⟩ := id hfe
    have e3 : s₂ = ({ (U.calling g mk a).setFrames s₂.frames with heap := s₂.heap, slotsUsed := s₂.slotsUsed } : State).setVm s₂.vm := by
      have : s₂ = ({ s₂ with vm := (U.calling g mk a).vm } : State).setVm s₂.vm := rfl
      rw [e2] at this
      exact this
    obtain ⟨c₂, i₂, len₂, hc₂, hd₂, hf₂⟩ := hend
    have hW' : U.WarmedH s₂.vm := hW₂
    have hcc : c₂ = c := by
      have h1 : s₂.code? g.method = U.code? g.method := by
        rw [State.code?_eq, State.code?_eq, hW'.alike.method?]
      exact Option.some.inj (hc₂.symm.trans (h1.trans h.code))
    subst hcc
    have hlen : len₂ = len := by rw [hdg] at hd₂; cases hd₂; rfl
    subst hlen
    have hs₂ : s₂ = (({ U with heap := s₂.heap, slotsUsed := s₂.slotsUsed } : State).setVm s₂.vm).setTop { g with pc := g.pc + len₂, stack := v.toList ++ g.stack } := by
      refine e3.trans ?_
      rw [hf₂, State.calling_eq h.top, State.setFrames_setFrames, State.setTop_of_frames _ hr', hr]
      rfl
    have hsame : U.sameButNew ({ U with heap := s₂.heap, slotsUsed := s₂.slotsUsed } : State) L mc ms := by
      refine ⟨?_, q2, q3, q4, q5, q6⟩
      obtain ⟨t, ht, -⟩ := State.frames_cons hr
      show ({ U with heap := s₂.heap, slotsUsed := s₂.slotsUsed } : State) = { U.setFrames U.frames with heap := s₂.heap, slotsUsed := s₂.slotsUsed }
      rw [State.setFrames_self ht]
    subst hg
    refine Or.inl ⟨v, ⟨(({ U with heap := s₂.heap, slotsUsed := s₂.slotsUsed } : State).setVm s₂.vm), Ls ++ L, c0 + mc, s0 + ms⟩,
      ⟨X.admits, X.cas, X.clock, X.frames, X.room, X.hears, X.method, X.code, (X.here.setHeapUsed s₂.heap s₂.slotsUsed).setVm hW'.alike, X.tail, State.WarmedH.trans X.warmed hW', X.limits, X.bytes, X.same.trans (hsame.setVm s.vm)⟩,
      ⟨g, mk, s₂, L, rfl, rfl, hqc, rfl, hL, rfl, rfl⟩, ?_⟩
    show Steps p.tables e below _ ((({ U with heap := s₂.heap, slotsUsed := s₂.slotsUsed } : State).setVm s₂.vm).setTop { g with pc := g.pc + len₂, stack := v.toList ++ g.stack })
    rw [← hs₂]
    exact hsteps
  · obtain ⟨e2, q2, q3, q4, q5, q6⟩ := id hsm
    have e3 : s₂ = ({ (U.calling g mk a).setFrames s₂.frames with heap := s₂.heap, slotsUsed := s₂.slotsUsed } : State).setVm s₂.vm := by
      have : s₂ = ({ s₂ with vm := (U.calling g mk a).vm } : State).setVm s₂.vm := rfl
      rw [e2] at this
      exact this
    have hf₂ : s₂.frames = .throwing q :: .java g :: U.frames.tail := hend
    have hW' : U.WarmedH s₂.vm := hW₂
    have hs₂ : s₂ = ((({ U with heap := s₂.heap, slotsUsed := s₂.slotsUsed } : State).setVm s₂.vm).setTop g).pushFrame (.throwing q) := by
      refine e3.trans ?_
      rw [hf₂, State.calling_eq h.top, State.setFrames_setFrames, State.pushFrame, State.frames_setTop _ hr', State.setTop_of_frames _ hr', State.setFrames_setFrames, hr]
      rfl
    have hsame : U.sameButNew ({ U with heap := s₂.heap, slotsUsed := s₂.slotsUsed } : State) L mc ms := by
      refine ⟨?_, q2, q3, q4, q5, q6⟩
      obtain ⟨t, ht, -⟩ := State.frames_cons hr
      show ({ U with heap := s₂.heap, slotsUsed := s₂.slotsUsed } : State) = { U.setFrames U.frames with heap := s₂.heap, slotsUsed := s₂.slotsUsed }
      rw [State.setFrames_self ht]
    subst hg
    refine Or.inr ⟨q, ⟨(({ U with heap := s₂.heap, slotsUsed := s₂.slotsUsed } : State).setVm s₂.vm), Ls ++ L, c0 + mc, s0 + ms⟩,
      ⟨X.admits, X.cas, X.clock, X.frames, X.room, X.hears, X.method, X.code, (X.here.setHeapUsed s₂.heap s₂.slotsUsed).setVm hW'.alike, X.tail, State.WarmedH.trans X.warmed hW', X.limits, X.bytes, X.same.trans (hsame.setVm s.vm)⟩,
      ⟨g, mk, s₂, L, E, ce, rfl, rfl, hx, hce, hcv, hcl, rfl, hL, rfl, rfl⟩, ?_⟩
    show Steps p.tables e below _ (((({ U with heap := s₂.heap, slotsUsed := s₂.slotsUsed } : State).setVm s₂.vm).setTop g).pushFrame (.throwing q))
    rw [← hs₂]
    exact hsteps
end Payer
section Calls
variable {p : Program} {l : Launch} {e : Env} {R : Room} {s : State} {m : MethodId} {args : Array Value} {below : List Frame} {meth : Method} {c : Code} {T : State} {locs : List Loc} {cells slots : Nat}
theorem vx_callV (X : Stand p l e R s m args below meth c T locs cells slots) (hexec : p.tables.exec = Jvm.exec) {own C : String} {index : Nat} {y : MethodName} {bytes : ByteArray} {maxL : Nat} {ret : Option FieldType}
    (hown : s.vm.findClass own = some m.cls) (hlink : (Cond.methodLink own index y).before args s = true) (hinst : (Cond.instanceMethod y).before args s = true) (hsel : (Cond.selects C y y).before args s = true)
    (hcode : (Cond.code y bytes maxL ret).before args s = true) (hy : y.cls ≠ "java/lang/invoke/MethodHandle" ∧ y.cls ≠ "java/lang/invoke/VarHandle")
    {W9 : Nat} {Pre : Pt → Array Value → Prop} {Post : Pt → Array Value → Option Value → Pt → Prop} {PostX : Pt → Array Value → Addr → Pt → Prop} (hK : vx_Back l R p e below s args y 3 W9 Pre Post PostX)
    {b : Addr} {cellB : Cell} (hcell : T.heap[b]? = some cellB) (hobj : cellB.vm.isStatics = false) (hcls : s.vm.findClass C = some cellB.cls)
    {g : JFrame} (hg : g.method = m) (hsize : g.locals.size = c.maxLocals) {argsL rest : List Value} (hlen : ∀ sig, parseMethodDescriptor y.desc = some sig → argsL.length = sig.parameters.length)
    (hstack : g.stack = argsL.reverse ++ .ref b :: rest) (hW : 2 * g.monitorRoom + (rest.map fun v => v.category).sum ≤ W9) (hdg : decode c.code g.pc = .ok (.invokevirtual index, 3))
    (hpre : ∀ vm₁, s.WarmedH vm₁ → Pre ⟨T.setVm vm₁, locs, cells, slots⟩ (Value.ref b :: argsL).toArray) :
    (∃ (v : Option Value) (vm₁ : Vm) (B : Pt), s.WarmedH vm₁ ∧ Stand p l e R s m args below meth c B.U B.locs B.cells B.slots ∧ Post ⟨T.setVm vm₁, locs, cells, slots⟩ (Value.ref b :: argsL).toArray v B ∧
      ∀ target, Steps p.tables e below (B.U.setTop { g with pc := g.pc + 3, stack := v.toList ++ rest }) target → Steps p.tables e below (T.setTop g) target) ∨
    (∃ (q : Addr) (vm₁ : Vm) (B : Pt), s.WarmedH vm₁ ∧ Stand p l e R s m args below meth c B.U B.locs B.cells B.slots ∧ PostX ⟨T.setVm vm₁, locs, cells, slots⟩ (Value.ref b :: argsL).toArray q B ∧
      Steps p.tables e below (T.setTop g) ((B.U.setTop { g with stack := rest }).pushFrame (.throwing q))) := by
  obtain ⟨mk, methM, hnamed, hmethM, hstM, habM⟩ := Cond.instanceMethod_spec hinst
  obtain ⟨methM', cM, hmethM', -, -, -, -, -, -, hsigM⟩ := Cond.code_spec hnamed hcode
  cases hmethM.symm.trans hmethM'
  obtain ⟨c2, r2, m2, q1, q2, q3, q4, kP, hkP, hkPi⟩ := Cond.selects_spec hsel
  cases hcls.symm.trans q1
  cases (State.methodFound?_of_named hnamed hy).symm.trans q2
  cases hnamed.symm.trans q3
  have hselP : selectMethod e.platform s.vm cellB.cls mk = .method mk := by rw [Launch.admits_selectMethod X.admits]; exact q4
  obtain ⟨vm₁, X₁, hstep₁⟩ := X.invokevirtual hexec hown hlink hnamed hmethM hstM hkP hkPi hy (a := b) (cell := cellB) hcell
    (fun z h => by rw [h] at hobj; cases hobj) hselP hmethM habM hkP hkPi (g := g) hg (argsL := argsL) (rest := rest) (hlen _ hsigM) hstack hdg
  rcases hK m meth c ⟨T.setVm vm₁, locs, cells, slots⟩ { g with stack := rest } (.invokevirtual index) mk (Value.ref b :: argsL).toArray X₁ hg hsize hdg hW (X₁.named hnamed) (hpre vm₁ X₁.warmed) with ⟨v, B, X', hpost, hsteps⟩ | ⟨q, B, X', hpost, hsteps⟩
  · exact Or.inl ⟨v, vm₁, B, X₁.warmed, X', hpost, fun target h => hstep₁ _ fun acts => by rw [doInvoke_state]; exact hsteps.trans h⟩
  · exact Or.inr ⟨q, vm₁, B, X₁.warmed, X', hpost, hstep₁ _ fun acts => by rw [doInvoke_state]; exact hsteps⟩
theorem vx_callS (X : Stand p l e R s m args below meth c T locs cells slots) (hexec : p.tables.exec = Jvm.exec) {own : String} {index : Nat} {y : MethodName} {bytes : ByteArray} {maxL : Nat} {ret : Option FieldType}
    (hown : s.vm.findClass own = some m.cls) (hlink : (Cond.methodLink own index y).before args s = true) (hstat : (Cond.static y).before args s = true) (hinit : (Cond.initialized y.cls).before args s = true)
    (hcode : (Cond.code y bytes maxL ret).before args s = true) (hy : y.cls ≠ "java/lang/invoke/MethodHandle" ∧ y.cls ≠ "java/lang/invoke/VarHandle")
    {W9 : Nat} {Pre : Pt → Array Value → Prop} {Post : Pt → Array Value → Option Value → Pt → Prop} {PostX : Pt → Array Value → Addr → Pt → Prop} (hK : vx_Back l R p e below s args y 3 W9 Pre Post PostX)
    {g : JFrame} (hg : g.method = m) (hsize : g.locals.size = c.maxLocals) {argsL rest : List Value} (hlen : ∀ sig, parseMethodDescriptor y.desc = some sig → argsL.length = sig.parameters.length)
    (hstack : g.stack = argsL.reverse ++ rest) (hW : 2 * g.monitorRoom + (rest.map fun v => v.category).sum ≤ W9) (hdg : decode c.code g.pc = .ok (.invokestatic index, 3))
    (hpre : ∀ vm₁, s.WarmedH vm₁ → Pre ⟨T.setVm vm₁, locs, cells, slots⟩ argsL.toArray) :
    (∃ (v : Option Value) (vm₁ : Vm) (B : Pt), s.WarmedH vm₁ ∧ Stand p l e R s m args below meth c B.U B.locs B.cells B.slots ∧ Post ⟨T.setVm vm₁, locs, cells, slots⟩ argsL.toArray v B ∧
      ∀ target, Steps p.tables e below (B.U.setTop { g with pc := g.pc + 3, stack := v.toList ++ rest }) target → Steps p.tables e below (T.setTop g) target) ∨
    (∃ (q : Addr) (vm₁ : Vm) (B : Pt), s.WarmedH vm₁ ∧ Stand p l e R s m args below meth c B.U B.locs B.cells B.slots ∧ PostX ⟨T.setVm vm₁, locs, cells, slots⟩ argsL.toArray q B ∧
      Steps p.tables e below (T.setTop g) ((B.U.setTop { g with stack := rest }).pushFrame (.throwing q))) := by
  obtain ⟨mk, hnamed⟩ := Cond.code_named hcode
  obtain ⟨methM, cM, hmethM, -, -, -, -, -, -, hsigM⟩ := Cond.code_spec hnamed hcode
  have hstatic : methM.isStatic = true := Cond.static_spec hnamed hmethM hstat
  obtain ⟨kP, hkP, -⟩ := className_of_methodNamed hnamed
  have hinitP : kP.init = .initialized := Cond.initialized_spec (findClass_of_methodNamed hnamed) hkP hinit
  obtain ⟨vm₁, X₁, hstep₁⟩ := X.invokestatic hexec hown hlink hnamed hmethM hstatic hkP hinitP hy (g := g) hg (argsL := argsL) (rest := rest) (hlen _ hsigM) hstack hdg
  rcases hK m meth c ⟨T.setVm vm₁, locs, cells, slots⟩ { g with stack := rest } (.invokestatic index) mk argsL.toArray X₁ hg hsize hdg hW (X₁.named hnamed) (hpre vm₁ X₁.warmed) with ⟨v, B, X', hpost, hsteps⟩ | ⟨q, B, X', hpost, hsteps⟩
  · exact Or.inl ⟨v, vm₁, B, X₁.warmed, X', hpost, fun target h => hstep₁ _ fun acts => by rw [doInvoke_state]; exact hsteps.trans h⟩
  · exact Or.inr ⟨q, vm₁, B, X₁.warmed, X', hpost, hstep₁ _ fun acts => by rw [doInvoke_state]; exact hsteps⟩
end Calls
theorem vx_cls {s : State} {T : State} {vm₁ : Vm} {E : String} {k : ClassId} (hW : s.WarmedH vm₁) (h : (T.setVm vm₁).vm.findClass E = some k) : s.vm.findClass E = some k := by
  have h1 : vm₁.findClass E = some k := h
  rw [hW.alike.findClass] at h1
  exact h1
/-- the method's frame g, with q thrown over it -/
def vx_W (p : Program) (l : Launch) (e : Env) (R : Room) (s : State) (m : MethodId) (args : Array Value) (below : List Frame) (meth : Method) (c : Code) (H : Heap) (locs : List Loc) (cells slots : Nat) (Q : State → Prop) (g : JFrame) (q : Addr) : Prop :=
  ∀ T : State, T.heap = H → Stand p l e R s m args below meth c T locs cells slots → ∃ t, Steps p.tables e below ((T.setTop g).pushFrame (.throwing q)) t ∧ Q t
def vx_Run (p : Program) (l : Launch) (e : Env) (R : Room) (s : State) (m : MethodId) (args : Array Value) (below : List Frame) (meth : Method) (c : Code) (H : Heap) (locs : List Loc) (cells slots mc ms : Nat) (g : JFrame) (rest : List Value) (Qa : State → Outcome → State → Prop) (XC : String → State → State → Prop) (free : Addr → Prop) : Prop :=
  ∀ T : State, T.heap = H → Stand p l e R s m args below meth c T locs cells slots →
    (∃ (v : Option Value) (st₀ t T' : State) (L : List Loc), st₀.heap = H ∧ Stand p l e R s m args below meth c T' (locs ++ L) (cells + mc) (slots + ms) ∧ (∀ q ∈ L, free q.base) ∧ T'.heap = t.heap ∧ T'.vm = t.vm ∧ Qa st₀ (.returned v) t ∧
      Goes p e below T g T' { g with pc := g.pc + 3, stack := v.toList ++ rest }) ∨
    (∃ (q : Addr) (st₀ t T' : State) (L : List Loc) (E : String) (ce : Cell), st₀.heap = H ∧ Stand p l e R s m args below meth c T' (locs ++ L) (cells + mc) (slots + ms) ∧ (∀ z ∈ L, free z.base) ∧ T'.heap = t.heap ∧ T'.vm = t.vm ∧ XC E st₀ t ∧ t.heap[q]? = some ce ∧ ce.vm = .none ∧ s.vm.findClass E = some ce.cls ∧
      Steps p.tables e below (T.setTop g) ((T'.setTop { g with stack := rest }).pushFrame (.throwing q)))
def vx_X {S : Type} (px : S → Prop) (B : String → S → State → Prop) (A : Nat → Prop) : String → State → State → Prop := fun E st t => ∃ u : S, px u ∧ B E u t ∧ va_F A st t
section Runs
variable {p : Program} {l : Launch} {e : Env} {R : Room} {s : State} {m : MethodId} {args : Array Value} {below : List Frame} {meth : Method} {c : Code} {H : Heap} {locs : List Loc} {cells slots : Nat}
variable {y : MethodName} {bytes cc : ByteArray} {maxL nL mc ms n index : Nat} {ret : Option FieldType} {ws : List Cond} {rm : Room} {Pc : Array Value → State → Prop} {Qc : Array Value → State → Outcome → State → Prop} {XC : String → State → State → Prop} {free : Addr → Prop} {Ts : List Cond} {own C : String} {b : Addr} {As rest : List Value} {g : JFrame}
theorem vx_callBack (cb : CallB R s args own index y bytes maxL ret ws rm mc ms n) (hM : vx_Met l y ws rm Pc Qc XC mc ms free) (hbl : FrameBlind Pc) : vx_Back l R p e below s args y 3 8 (PreOf R mc ms Pc) (PostOf Qc mc ms free) (vx_Post XC mc ms free) := by
  obtain ⟨hrc, hrs, hfr, hlo, hws, hcw, -, hini, -⟩ := cb
  exact vx_back (bytes := bytes) (maxL := maxL) (ret := ret) hM hbl hrc hrs hfr hlo hws hcw (fun a' U hW => word_at hW (Or.inl (by first | rfl | simp [Cond.onTables, Cond.keeps, Cond.steady])) hini)
theorem vx_runV (S : CallFix p m c cc nL s args Ts own) (hM : vx_Met l y ws rm Pc Qc XC mc ms free) (cw : CallW R s args own C index y bytes maxL ret ws rm mc ms n) (hp : PreV s H C b Pc As)
    (hg : g.method = m) (hn : As.length = n) (hsize : g.locals.size = nL) (hstack : g.stack = As.reverse ++ .ref b :: rest) (hW : 2 * g.monitorRoom + (rest.map fun v => v.category).sum ≤ 8) (hdg : decode cc g.pc = .ok (.invokevirtual index, 3)) (hf : cells + mc ≤ R.cells ∧ slots + ms ≤ R.slots) :
    vx_Run p l e R s m args below meth c H locs cells slots mc ms g rest (Qc (Value.ref b :: As).toArray) XC free := by
  have hK : vx_Back l R p e below s args y 3 8 (PreOf R mc ms Pc) (PostOf Qc mc ms free) (vx_Post XC mc ms free) := vx_callBack cw.1 hM hp.1
  obtain ⟨⟨-, -, -, -, -, -, hcode, -, hy, hlen, hl⟩, hin, hse⟩ := cw
  obtain ⟨hx, hb, hml, ho, -⟩ := S
  obtain ⟨-, ⟨cellB, hcB, hoB, hclB⟩, hPc⟩ := hp
  intro T hT X
  rcases vx_callV X hx (C := C) (bytes := bytes) (maxL := maxL) (ret := ret) ho hl hin hse hcode hy hK (by rw [hT]; exact hcB) hoB hclB hg (hsize.trans hml.symm) (argsL := As) (rest := rest) (fun sig h => hn.trans (hlen sig h)) hstack hW (by rw [hb]; exact hdg)
    (fun vm₁ hW₁ => ⟨hf.1, hf.2, hPc (T.setVm vm₁) hT hW₁⟩) with ⟨v, vm₁, ⟨U', l2, c2, s2⟩, hW₁, X', ⟨g', mk, t, L, e1, e2, hq, h1, hL, h2, h3⟩, st⟩ | ⟨q, vm₁, ⟨U', l2, c2, s2⟩, hW₁, X', ⟨g', mk, t, L, E, ce, e1, e2, hq, hce, hcv, hcl, h1, hL, h2, h3⟩, st⟩
  · dsimp only [Pt.U, Pt.locs, Pt.cells, Pt.slots] at X' e1 e2 h1 h2 h3 st
    subst h1; subst h2; subst h3
    exact Or.inl ⟨v, (T.setVm vm₁).calling g' mk (Value.ref b :: As).toArray, t, U', L, hT, X', hL, e1, e2, hq, st⟩
  · dsimp only [Pt.U, Pt.locs, Pt.cells, Pt.slots] at X' e1 e2 h1 h2 h3 st hcl
    subst h1; subst h2; subst h3
    exact Or.inr ⟨q, (T.setVm vm₁).calling g' mk (Value.ref b :: As).toArray, t, U', L, E, ce, hT, X', hL, e1, e2, hq, hce, hcv, vx_cls hW₁ hcl, st⟩
theorem vx_runS (S : CallFix p m c cc nL s args Ts own) (hM : vx_Met l y ws rm Pc Qc XC mc ms free) (cw : CallB R s args own index y bytes maxL ret ws rm mc ms n ∧ (Cond.static y).before args s = true) (hp : PreS s H Pc As)
    (hg : g.method = m) (hn : As.length = n) (hsize : g.locals.size = nL) (hstack : g.stack = As.reverse ++ rest) (hW : 2 * g.monitorRoom + (rest.map fun v => v.category).sum ≤ 8) (hdg : decode cc g.pc = .ok (.invokestatic index, 3)) (hf : cells + mc ≤ R.cells ∧ slots + ms ≤ R.slots) :
    vx_Run p l e R s m args below meth c H locs cells slots mc ms g rest (Qc As.toArray) XC free := by
  have hK : vx_Back l R p e below s args y 3 8 (PreOf R mc ms Pc) (PostOf Qc mc ms free) (vx_Post XC mc ms free) := vx_callBack cw.1 hM hp.1
  obtain ⟨⟨-, -, -, -, -, -, hcode, hini, hy, hlen, hl⟩, hstt⟩ := cw
  obtain ⟨hx, hb, hml, ho, -⟩ := S
  intro T hT X
  rcases vx_callS X hx (bytes := bytes) (maxL := maxL) (ret := ret) ho hl hstt hini hcode hy hK hg (hsize.trans hml.symm) (argsL := As) (rest := rest) (fun sig h => hn.trans (hlen sig h)) hstack hW (by rw [hb]; exact hdg)
    (fun vm₁ hW₁ => ⟨hf.1, hf.2, hp.2 (T.setVm vm₁) hT hW₁⟩) with ⟨v, vm₁, ⟨U', l2, c2, s2⟩, hW₁, X', ⟨g', mk, t, L, e1, e2, hq, h1, hL, h2, h3⟩, st⟩ | ⟨q, vm₁, ⟨U', l2, c2, s2⟩, hW₁, X', ⟨g', mk, t, L, E, ce, e1, e2, hq, hce, hcv, hcl, h1, hL, h2, h3⟩, st⟩
  · dsimp only [Pt.U, Pt.locs, Pt.cells, Pt.slots] at X' e1 e2 h1 h2 h3 st
    subst h1; subst h2; subst h3
    exact Or.inl ⟨v, (T.setVm vm₁).calling g' mk As.toArray, t, U', L, hT, X', hL, e1, e2, hq, st⟩
  · dsimp only [Pt.U, Pt.locs, Pt.cells, Pt.slots] at X' e1 e2 h1 h2 h3 st hcl
    subst h1; subst h2; subst h3
    exact Or.inr ⟨q, (T.setVm vm₁).calling g' mk As.toArray, t, U', L, E, ce, hT, X', hL, e1, e2, hq, hce, hcv, vx_cls hW₁ hcl, st⟩
end Runs
section Rows
variable {p : Program} {l : Launch} {e : Env} {R : Room} {s : State} {m : MethodId} {args : Array Value} {below : List Frame} {meth : Method} {c : Code} {H : Heap} {locs : List Loc} {cells slots : Nat} {Q : State → Prop}
variable {mc ms : Nat} {free : Addr → Prop} {A0 A1 : Nat → Prop} {H0 : Heap} {a : Array Value} {pc : Nat} {ls : Array Slot} {st0 rest : List Value}
theorem vx_keep {st₀ t T' : State} {L : List Loc} (h0 : st₀.heap = H) (e1 : T'.heap = t.heap) (hS : va_S A0 H0 H locs) (hA : ∀ q, q < H.size → A1 q → A0 q) (hf : ∀ q, free q → A0 q) (hL : ∀ q ∈ L, free q.base) (hF : va_F A1 st₀ t) :
    H.size ≤ T'.heap.size ∧ (∀ q : Nat, q < H.size → ¬ A1 q → T'.heap[q]? = H[q]?) ∧ va_S A0 H0 T'.heap (locs ++ L) := by
  obtain ⟨hz, hk⟩ := hF
  rw [h0] at hz hk
  exact ⟨by rw [e1]; exact hz, fun q h1 h2 => by rw [e1]; exact hk q h1 h2,
    ⟨Nat.le_trans hS.1 (by rw [e1]; exact hz), fun q h1 h2 => by rw [e1, hk q (Nat.lt_of_lt_of_le h1 hS.1) (fun z => h2 (hA q (Nat.lt_of_lt_of_le h1 hS.1) z))]; exact hS.2.1 q h1 h2, fun q hq => by
      rcases List.mem_append.mp hq with h | h
      · exact hS.2.2 q h
      · exact hf _ (hL q h)⟩⟩
theorem vx_calli {S SX : Type} {post : Int32 → S → Prop} {px : SX → Prop} {B : S → State → Prop} {BX : String → SX → State → Prop} {AX : Nat → Prop} (hr : vx_Run p l e R s m args below meth c H locs cells slots mc ms (F0 m pc ls st0) rest (va_Qi post B A1 a) (vx_X px BX AX) free) (hS : va_S A0 H0 H locs) (hA : ∀ q, q < H.size → A1 q → A0 q) (hf : ∀ q, free q → A0 q) (hAX : ∀ q, q < H.size → AX q → A0 q)
    (kx : ∀ (E : String) (ce : Cell) (q9 : Addr) (u : SX) (t : State) (H1 : Heap) (locs1 : List Loc), t.heap = H1 → s.vm.Alike t.vm → px u → BX E u t → H.size ≤ H1.size → (∀ q : Nat, q < H.size → ¬ AX q → H1[q]? = H[q]?) → va_S A0 H0 H1 locs1 → H1[q9]? = some ce → ce.vm = .none → s.vm.findClass E = some ce.cls → vx_W p l e R s m args below meth c H1 locs1 (cells + mc) (slots + ms) Q (F0 m pc ls rest) q9)
    (kk : ∀ (r : Int32) (u : S) (t : State) (H1 : Heap) (locs1 : List Loc), t.heap = H1 → s.vm.Alike t.vm → post r u → B u t → H.size ≤ H1.size → (∀ q : Nat, q < H.size → ¬ A1 q → H1[q]? = H[q]?) → va_S A0 H0 H1 locs1 → W p l e R s m args below meth c H1 locs1 (cells + mc) (slots + ms) Q (F0 m (pc + 3) ls (.int r :: rest))) : W p l e R s m args below meth c H locs cells slots Q (F0 m pc ls st0) := by
  intro T hT X
  rcases hr T hT X with ⟨v, st₀, t, T', L, h0, X', hL, e1, e2, ⟨⟨r, u, hv, hp, hb⟩, hF⟩, st⟩ | ⟨q, st₀, t, T', L, E, ce, h0, X', hL, e1, e2, ⟨u, hp, hb, hF⟩, hce, hcv, hcl, st⟩
  · cases hv
    obtain ⟨k1, k2, k3⟩ := vx_keep h0 e1 hS hA hf hL hF
    obtain ⟨t2, a1, b1⟩ := kk r u t T'.heap (locs ++ L) e1.symm (by rw [← e2]; exact X'.warmed.alike) hp hb k1 k2 k3 T' rfl X'
    exact ⟨t2, st t2 a1, b1⟩
  · obtain ⟨k1, k2, k3⟩ := vx_keep h0 e1 hS hAX hf hL hF
    obtain ⟨t2, a1, b1⟩ := kx E ce q u t T'.heap (locs ++ L) e1.symm (by rw [← e2]; exact X'.warmed.alike) hp hb k1 k2 k3 (by rw [e1]; exact hce) hcv hcl T' rfl X'
    exact ⟨t2, st.trans a1, b1⟩
theorem vx_calll {S SX : Type} {post : Int64 → S → Prop} {px : SX → Prop} {B : S → State → Prop} {BX : String → SX → State → Prop} {AX : Nat → Prop} (hr : vx_Run p l e R s m args below meth c H locs cells slots mc ms (F0 m pc ls st0) rest (va_Ql post B A1 a) (vx_X px BX AX) free) (hS : va_S A0 H0 H locs) (hA : ∀ q, q < H.size → A1 q → A0 q) (hf : ∀ q, free q → A0 q) (hAX : ∀ q, q < H.size → AX q → A0 q)
    (kx : ∀ (E : String) (ce : Cell) (q9 : Addr) (u : SX) (t : State) (H1 : Heap) (locs1 : List Loc), t.heap = H1 → s.vm.Alike t.vm → px u → BX E u t → H.size ≤ H1.size → (∀ q : Nat, q < H.size → ¬ AX q → H1[q]? = H[q]?) → va_S A0 H0 H1 locs1 → H1[q9]? = some ce → ce.vm = .none → s.vm.findClass E = some ce.cls → vx_W p l e R s m args below meth c H1 locs1 (cells + mc) (slots + ms) Q (F0 m pc ls rest) q9)
    (kk : ∀ (r : Int64) (u : S) (t : State) (H1 : Heap) (locs1 : List Loc), t.heap = H1 → s.vm.Alike t.vm → post r u → B u t → H.size ≤ H1.size → (∀ q : Nat, q < H.size → ¬ A1 q → H1[q]? = H[q]?) → va_S A0 H0 H1 locs1 → W p l e R s m args below meth c H1 locs1 (cells + mc) (slots + ms) Q (F0 m (pc + 3) ls (.long r :: rest))) : W p l e R s m args below meth c H locs cells slots Q (F0 m pc ls st0) := by
  intro T hT X
  rcases hr T hT X with ⟨v, st₀, t, T', L, h0, X', hL, e1, e2, ⟨⟨r, u, hv, hp, hb⟩, hF⟩, st⟩ | ⟨q, st₀, t, T', L, E, ce, h0, X', hL, e1, e2, ⟨u, hp, hb, hF⟩, hce, hcv, hcl, st⟩
  · cases hv
    obtain ⟨k1, k2, k3⟩ := vx_keep h0 e1 hS hA hf hL hF
    obtain ⟨t2, a1, b1⟩ := kk r u t T'.heap (locs ++ L) e1.symm (by rw [← e2]; exact X'.warmed.alike) hp hb k1 k2 k3 T' rfl X'
    exact ⟨t2, st t2 a1, b1⟩
  · obtain ⟨k1, k2, k3⟩ := vx_keep h0 e1 hS hAX hf hL hF
    obtain ⟨t2, a1, b1⟩ := kx E ce q u t T'.heap (locs ++ L) e1.symm (by rw [← e2]; exact X'.warmed.alike) hp hb k1 k2 k3 (by rw [e1]; exact hce) hcv hcl T' rfl X'
    exact ⟨t2, st.trans a1, b1⟩
theorem vx_callf {S SX : Type} {post : UInt32 → S → Prop} {px : SX → Prop} {B : S → State → Prop} {BX : String → SX → State → Prop} {AX : Nat → Prop} (hr : vx_Run p l e R s m args below meth c H locs cells slots mc ms (F0 m pc ls st0) rest (va_Qf post B A1 a) (vx_X px BX AX) free) (hS : va_S A0 H0 H locs) (hA : ∀ q, q < H.size → A1 q → A0 q) (hf : ∀ q, free q → A0 q) (hAX : ∀ q, q < H.size → AX q → A0 q)
    (kx : ∀ (E : String) (ce : Cell) (q9 : Addr) (u : SX) (t : State) (H1 : Heap) (locs1 : List Loc), t.heap = H1 → s.vm.Alike t.vm → px u → BX E u t → H.size ≤ H1.size → (∀ q : Nat, q < H.size → ¬ AX q → H1[q]? = H[q]?) → va_S A0 H0 H1 locs1 → H1[q9]? = some ce → ce.vm = .none → s.vm.findClass E = some ce.cls → vx_W p l e R s m args below meth c H1 locs1 (cells + mc) (slots + ms) Q (F0 m pc ls rest) q9)
    (kk : ∀ (r : UInt32) (u : S) (t : State) (H1 : Heap) (locs1 : List Loc), t.heap = H1 → s.vm.Alike t.vm → post r u → B u t → H.size ≤ H1.size → (∀ q : Nat, q < H.size → ¬ A1 q → H1[q]? = H[q]?) → va_S A0 H0 H1 locs1 → W p l e R s m args below meth c H1 locs1 (cells + mc) (slots + ms) Q (F0 m (pc + 3) ls (.float r :: rest))) : W p l e R s m args below meth c H locs cells slots Q (F0 m pc ls st0) := by
  intro T hT X
  rcases hr T hT X with ⟨v, st₀, t, T', L, h0, X', hL, e1, e2, ⟨⟨r, u, hv, hp, hb⟩, hF⟩, st⟩ | ⟨q, st₀, t, T', L, E, ce, h0, X', hL, e1, e2, ⟨u, hp, hb, hF⟩, hce, hcv, hcl, st⟩
  · cases hv
    obtain ⟨k1, k2, k3⟩ := vx_keep h0 e1 hS hA hf hL hF
    obtain ⟨t2, a1, b1⟩ := kk r u t T'.heap (locs ++ L) e1.symm (by rw [← e2]; exact X'.warmed.alike) hp hb k1 k2 k3 T' rfl X'
    exact ⟨t2, st t2 a1, b1⟩
  · obtain ⟨k1, k2, k3⟩ := vx_keep h0 e1 hS hAX hf hL hF
    obtain ⟨t2, a1, b1⟩ := kx E ce q u t T'.heap (locs ++ L) e1.symm (by rw [← e2]; exact X'.warmed.alike) hp hb k1 k2 k3 (by rw [e1]; exact hce) hcv hcl T' rfl X'
    exact ⟨t2, st.trans a1, b1⟩
theorem vx_calld {S SX : Type} {post : UInt64 → S → Prop} {px : SX → Prop} {B : S → State → Prop} {BX : String → SX → State → Prop} {AX : Nat → Prop} (hr : vx_Run p l e R s m args below meth c H locs cells slots mc ms (F0 m pc ls st0) rest (va_Qd post B A1 a) (vx_X px BX AX) free) (hS : va_S A0 H0 H locs) (hA : ∀ q, q < H.size → A1 q → A0 q) (hf : ∀ q, free q → A0 q) (hAX : ∀ q, q < H.size → AX q → A0 q)
    (kx : ∀ (E : String) (ce : Cell) (q9 : Addr) (u : SX) (t : State) (H1 : Heap) (locs1 : List Loc), t.heap = H1 → s.vm.Alike t.vm → px u → BX E u t → H.size ≤ H1.size → (∀ q : Nat, q < H.size → ¬ AX q → H1[q]? = H[q]?) → va_S A0 H0 H1 locs1 → H1[q9]? = some ce → ce.vm = .none → s.vm.findClass E = some ce.cls → vx_W p l e R s m args below meth c H1 locs1 (cells + mc) (slots + ms) Q (F0 m pc ls rest) q9)
    (kk : ∀ (r : UInt64) (u : S) (t : State) (H1 : Heap) (locs1 : List Loc), t.heap = H1 → s.vm.Alike t.vm → post r u → B u t → H.size ≤ H1.size → (∀ q : Nat, q < H.size → ¬ A1 q → H1[q]? = H[q]?) → va_S A0 H0 H1 locs1 → W p l e R s m args below meth c H1 locs1 (cells + mc) (slots + ms) Q (F0 m (pc + 3) ls (.double r :: rest))) : W p l e R s m args below meth c H locs cells slots Q (F0 m pc ls st0) := by
  intro T hT X
  rcases hr T hT X with ⟨v, st₀, t, T', L, h0, X', hL, e1, e2, ⟨⟨r, u, hv, hp, hb⟩, hF⟩, st⟩ | ⟨q, st₀, t, T', L, E, ce, h0, X', hL, e1, e2, ⟨u, hp, hb, hF⟩, hce, hcv, hcl, st⟩
  · cases hv
    obtain ⟨k1, k2, k3⟩ := vx_keep h0 e1 hS hA hf hL hF
    obtain ⟨t2, a1, b1⟩ := kk r u t T'.heap (locs ++ L) e1.symm (by rw [← e2]; exact X'.warmed.alike) hp hb k1 k2 k3 T' rfl X'
    exact ⟨t2, st t2 a1, b1⟩
  · obtain ⟨k1, k2, k3⟩ := vx_keep h0 e1 hS hAX hf hL hF
    obtain ⟨t2, a1, b1⟩ := kx E ce q u t T'.heap (locs ++ L) e1.symm (by rw [← e2]; exact X'.warmed.alike) hp hb k1 k2 k3 (by rw [e1]; exact hce) hcv hcl T' rfl X'
    exact ⟨t2, st.trans a1, b1⟩
theorem vx_callv {S SX : Type} {post : S → Prop} {px : SX → Prop} {B : S → State → Prop} {BX : String → SX → State → Prop} {AX : Nat → Prop} (hr : vx_Run p l e R s m args below meth c H locs cells slots mc ms (F0 m pc ls st0) rest (va_Qv post B A1 a) (vx_X px BX AX) free) (hS : va_S A0 H0 H locs) (hA : ∀ q, q < H.size → A1 q → A0 q) (hf : ∀ q, free q → A0 q) (hAX : ∀ q, q < H.size → AX q → A0 q)
    (kx : ∀ (E : String) (ce : Cell) (q9 : Addr) (u : SX) (t : State) (H1 : Heap) (locs1 : List Loc), t.heap = H1 → s.vm.Alike t.vm → px u → BX E u t → H.size ≤ H1.size → (∀ q : Nat, q < H.size → ¬ AX q → H1[q]? = H[q]?) → va_S A0 H0 H1 locs1 → H1[q9]? = some ce → ce.vm = .none → s.vm.findClass E = some ce.cls → vx_W p l e R s m args below meth c H1 locs1 (cells + mc) (slots + ms) Q (F0 m pc ls rest) q9)
    (kk : ∀ (u : S) (t : State) (H1 : Heap) (locs1 : List Loc), t.heap = H1 → s.vm.Alike t.vm → post u → B u t → H.size ≤ H1.size → (∀ q : Nat, q < H.size → ¬ A1 q → H1[q]? = H[q]?) → va_S A0 H0 H1 locs1 → W p l e R s m args below meth c H1 locs1 (cells + mc) (slots + ms) Q (F0 m (pc + 3) ls (rest))) : W p l e R s m args below meth c H locs cells slots Q (F0 m pc ls st0) := by
  intro T hT X
  rcases hr T hT X with ⟨v, st₀, t, T', L, h0, X', hL, e1, e2, ⟨⟨u, hv, hp, hb⟩, hF⟩, st⟩ | ⟨q, st₀, t, T', L, E, ce, h0, X', hL, e1, e2, ⟨u, hp, hb, hF⟩, hce, hcv, hcl, st⟩
  · cases hv
    obtain ⟨k1, k2, k3⟩ := vx_keep h0 e1 hS hA hf hL hF
    obtain ⟨t2, a1, b1⟩ := kk u t T'.heap (locs ++ L) e1.symm (by rw [← e2]; exact X'.warmed.alike) hp hb k1 k2 k3 T' rfl X'
    exact ⟨t2, st t2 a1, b1⟩
  · obtain ⟨k1, k2, k3⟩ := vx_keep h0 e1 hS hAX hf hL hF
    obtain ⟨t2, a1, b1⟩ := kx E ce q u t T'.heap (locs ++ L) e1.symm (by rw [← e2]; exact X'.warmed.alike) hp hb k1 k2 k3 (by rw [e1]; exact hce) hcv hcl T' rfl X'
    exact ⟨t2, st.trans a1, b1⟩
/-- caught by the row x of this method's table; the rows ahead don't take it -/
theorem vx_catch {own name : String} {E : String} {ce : Cell} {q : Addr} (hown : s.vm.findClass own = some m.cls) (pre : List ExceptionTableEntry) (x : ExceptionTableEntry) (suf : List ExceptionTableEntry) (hsplit : c.exceptionTable.toList = pre ++ x :: suf)
    (hpass : ∀ z ∈ pre, covers z pc = false ∨ (z.catchType ≠ 0 ∧ ∃ nm : String, (Cond.classLink own z.catchType nm).before args s = true ∧ va_Nc E nm s)) (hx : covers x pc = true) (h0 : x.catchType ≠ 0)
    (hlink : (Cond.classLink own x.catchType name).before args s = true) (hcast : (Cond.castable E name).before args s = true) (hcell : H[q]? = some ce) (hv : ce.vm = .none) (hcl : s.vm.findClass E = some ce.cls)
    (kk : W p l e R s m args below meth c H locs cells slots Q (F0 m x.handlerPc ls [.ref q])) : vx_W p l e R s m args below meth c H locs cells slots Q (F0 m pc ls rest) q := by
  intro T hT X
  have hpl : e.platform.magicAccessors = ({} : Platform).magicAccessors := by rw [X.admits.platform]
  obtain ⟨c3, c4, hc3, hc4, hasg⟩ := Cond.castable_spec hcast
  cases Option.some.inj (hc3.symm.trans hcl)
  obtain ⟨c5, hc5, hcl5⟩ := Cond.classLink_spec hown hlink e.platform hpl
  cases Option.some.inj (hc4.symm.trans hc5)
  obtain ⟨vm', X', st⟩ := X.thenCaughtThrough q (g := F0 m pc ls rest) rfl (Steps.refl _) (by rw [hT]; exact hcell) (by rw [hv]; rfl) (by obtain ⟨k9, h9, -⟩ := Vm.findClass_spec hcl; exact ⟨k9, h9⟩) pre x suf hsplit
    (fun z hz => by
      rcases hpass z hz with h | ⟨hz0, nm, hl1, hn1⟩
      · exact Or.inl h
      · obtain ⟨c6, hc6, hcl6⟩ := Cond.classLink_spec hown hl1 e.platform hpl
        obtain ⟨a8, b8, h1, h2, h3⟩ := hn1
        cases Option.some.inj (h1.symm.trans hcl)
        cases Option.some.inj (h2.symm.trans hc6)
        exact Or.inr ⟨hz0, _, hcl6, h3⟩) hx (Or.inr ⟨h0, c4, hcl5, hasg⟩)
  obtain ⟨t, a1, b1⟩ := kk (T.setVm vm') hT X'
  exact ⟨t, st.trans a1, b1⟩
end Rows
section Ends
variable {p : Program} {l : Launch} {e : Env} {R : Room} {s : State} {m : MethodId} {args : Array Value} {below : List Frame} {meth : Method} {c : Code} {H : Heap} {locs : List Loc} {cells slots : Nat} {Q : State → Prop}
variable {mc ms : Nat} {free : Addr → Prop} {A0 A1 : Nat → Prop} {H0 : Heap} {a : Array Value} {ls : Array Slot} {st0 rest : List Value}
variable {Qc : Array Value → State → Outcome → State → Prop} {XC : String → State → State → Prop}
/-- what a body that may throw owes at its end -/
def vx_MQ (below : List Frame) (Qc : Array Value → State → Outcome → State → Prop) (XC : String → State → State → Prop) (a : Array Value) (s : State) (mc ms : Nat) (free : Addr → Prop) : State → Prop := fun t =>
  ∃ o, t.status = .running ∧ Ended t below o ∧ vx_Q Qc XC mc ms free a s o t
theorem vx_ret {g : JFrame} {mc ms : Nat} (k : W p l e R s m args below meth c H locs cells slots (MQ below Qc args s mc ms free) g) : W p l e R s m args below meth c H locs cells slots (vx_MQ below Qc XC args s mc ms free) g := by
  intro T hT X
  obtain ⟨t, a1, o, b1, b2, b3, b4⟩ := k T hT X
  exact ⟨t, a1, o, b1, b2, Or.inl ⟨b3, b4⟩⟩
/-- not caught here: it goes on to the caller -/
theorem vx_widen {g : JFrame} {q : Addr} {k n : Nat} (h1 : cells ≤ k) (h2 : slots ≤ n) (kk : vx_W p l e R s m args below meth c H locs k n Q g q) : vx_W p l e R s m args below meth c H locs cells slots Q g q := fun T hT X => kk T hT (stand_widen X h1 h2)
theorem vx_out {pc : Nat} {E : String} {ce : Cell} {q : Addr} {mc ms : Nat} (hout : ∀ x ∈ c.exceptionTable.toList, covers x pc = false) (hlocks : meth.locks = false) (hcell : H[q]? = some ce) (hv : ce.vm = .none) (hcl : s.vm.findClass E = some ce.cls)
    (hx : ∀ t : State, t.heap = H → s.vm.Alike t.vm → XC E s t) (hf : ∀ z ∈ locs, free z.base) (hc : cells ≤ mc) (hs : slots ≤ ms) :
    vx_W p l e R s m args below meth c H locs cells slots (vx_MQ below Qc XC args s mc ms free) (F0 m pc ls rest) q := by
  intro T hT X
  obtain ⟨st1, hrun, hend, hW, hsm⟩ := X.leaveThrown q (g := F0 m pc ls rest) rfl rfl rfl hout hlocks
  have hcell9 : (T.setFrames (.throwing q :: below)).heap[q]? = some ce := by
    show T.heap[q]? = some ce
    rw [hT]; exact hcell
  exact ⟨_, st1, .threw q, hrun, hend, Or.inr ⟨q, rfl, E, ce, locs, hx _ hT hW.alike, hcell9, hv, hcl, hW, hsm.mono hc hs, hf⟩⟩
theorem vx_frame {U : State} {k n : Nat} (h : s.sameButNew ({ U with vm := s.vm } : State) locs k n) : s.heap.size ≤ U.heap.size ∧ ∀ q : Nat, q < s.heap.size → (∀ z ∈ locs, z.base ≠ q) → U.heap[q]? = s.heap[q]? := by
  obtain ⟨-, h2, -, -, -, h6⟩ := h
  refine ⟨h2, fun q hq hz => ?_⟩
  obtain ⟨c9, e1, e2, e3, e4⟩ := h6 q _ (Array.getElem?_eq_getElem hq)
  have hs : c9.slots = (s.heap[q]).slots := Array.ext_getElem? fun i => e4 i fun hm => hz _ hm rfl
  have h9 : c9 = s.heap[q] := by
    rw [hs] at e2
    exact e2
  have e5 : U.heap[q]? = some c9 := e1
  rw [e5, h9, Array.getElem?_eq_getElem hq]
/-- the words of a throw but the four that speak of the heap -/
def vx_no (w : Cond) : Bool := decide (w ≠ .isRef (.static Bundle.tN "UNASSIGNED_STACK" Bundle.steD)) && decide (w ≠ .isRef (.static Bundle.tN "SUPPRESSED_SENTINEL" Bundle.listD)) && decide (w ≠ .laysStatic Bundle.tN "UNASSIGNED_STACK" Bundle.steD) && decide (w ≠ .laysStatic Bundle.tN "SUPPRESSED_SENTINEL" Bundle.listD)
def vx_at0 (own : String) (ic : Nat) (X : String) (names : List String) : List Cond := (Bundle.ownAtoms0 own ic X names).filter vx_no
def vx_atS (own : String) (ic : Nat) (X : String) (names : List String) : List Cond := (Bundle.ownAtoms own ic X names).filter vx_no
/-- a word that the tables alone decide, or a good one -/
def vx_ot (w : Cond) : Bool := w.onTables || goodWord w
theorem vx_ot_at {args a' : Array Value} {s U : State} {w : Cond} (hW : s.WarmedH U.vm) (hvm : s.vm = U.vm) (hg : vx_ot w = true) (h : w.before args s = true) : w.before a' U = true := by
  simp only [vx_ot, Bool.or_eq_true] at hg
  rcases hg with hg | hg
  · exact va_tabs hg hvm h
  · exact word_at hW (good_of_word hg) h
/-- a list's words: the good ones out of the method's own list, the others by premises of their own -/
theorem vx_hat {args : Array Value} {s : State} {L B : List Cond} (h1 : ∀ w ∈ L.filter goodWord, w.before args s = true) (h2 : ∀ w ∈ L.filter (fun w => !goodWord w), w ∈ B) (h3 : ∀ w ∈ B, w.before args s = true) : ∀ w ∈ L, w.before args s = true := by
  intro w hw
  by_cases g : goodWord w = true
  · exact h1 w (List.mem_filter.mpr ⟨hw, g⟩)
  · refine h3 w (h2 w (List.mem_filter.mpr ⟨hw, ?_⟩))
    show (!goodWord w) = true
    cases hgw : goodWord w
    · rfl
    · exact absurd hgw g
theorem vx_c {args : Array Value} {s : State} {w : Cond} {B : List Cond} (h : w.before args s = true) (t : ∀ w ∈ B, w.before args s = true) : ∀ w' ∈ w :: B, w'.before args s = true := fun w' h' => (List.mem_cons.mp h').elim (fun e => by rw [e]; exact h) (t w')
theorem vx_n {args : Array Value} {s : State} : ∀ w ∈ ([] : List Cond), w.before args s = true := fun _ h => nomatch h
theorem vx_own {args : Array Value} {s : State} {L : List Cond} (h1 : ∀ w ∈ L.filter vx_no, w.before args s = true)
    (hU : (Cond.isRef (.static Bundle.tN "UNASSIGNED_STACK" Bundle.steD)).before args s = true) (hN : (Cond.isRef (.static Bundle.tN "SUPPRESSED_SENTINEL" Bundle.listD)).before args s = true)
    (lU : (Cond.laysStatic Bundle.tN "UNASSIGNED_STACK" Bundle.steD).before args s = true) (lN : (Cond.laysStatic Bundle.tN "SUPPRESSED_SENTINEL" Bundle.listD).before args s = true) : ∀ w ∈ L, w.before args s = true := by
  intro w hw
  by_cases e1 : w = .isRef (.static Bundle.tN "UNASSIGNED_STACK" Bundle.steD)
  · rw [e1]; exact hU
  · by_cases e2 : w = .isRef (.static Bundle.tN "SUPPRESSED_SENTINEL" Bundle.listD)
    · rw [e2]; exact hN
    · by_cases e3 : w = .laysStatic Bundle.tN "UNASSIGNED_STACK" Bundle.steD
      · rw [e3]; exact lU
      · by_cases e4 : w = .laysStatic Bundle.tN "SUPPRESSED_SENTINEL" Bundle.listD
        · rw [e4]; exact lN
        · exact h1 w (List.mem_filter.mpr ⟨hw, by unfold vx_no; rw [decide_eq_true e1, decide_eq_true e2, decide_eq_true e3, decide_eq_true e4]; rfl⟩)
/-- where a static field lies, its class's statics cell in H -/
def vx_L (C n d : String) (A : Nat → Prop) (U : State) (H : Heap) : Prop := ∃ (c : ClassId) (k : Class) (i : Nat) (f : Field) (a : Nat) (cell : Cell), U.vm.findClass C = some c ∧ U.fieldFound? C n d = some (c, k, i, f) ∧ f.isStatic = true ∧ k.statics = some a ∧ H[a]? = some cell ∧ cell.vm.isStatics = true ∧ cell.cls = c ∧ f.slot < cell.slots.size ∧ k.staticTypes[f.slot]? = some f.type ∧ ¬ A a
theorem vx_L.moved {C n d : String} {A : Nat → Prop} {u U : State} {H : Heap} (hvm : u.vm.Alike U.vm) (h : vx_L C n d A u H) : vx_L C n d A U H := by
  obtain ⟨c, k, i, f, a, cell, h1, h2, h3, h4, h5, h6, h7, h8, h9, h10⟩ := h
  obtain ⟨k', hi', he⟩ := State.fieldFound?_setVm hvm h2
  exact ⟨c, k', i, f, a, cell, by rw [hvm.findClass]; exact h1, hi', h3, by rw [he]; exact h4, h5, h6, h7, h8, by rw [he]; exact h9, h10⟩
theorem vx_L.kept {C n d : String} {A : Nat → Prop} {U : State} {H H1 : Heap} (h : vx_L C n d A U H) (hq : ∀ a : Nat, a < H.size → ¬ A a → H1[a]? = H[a]?) : vx_L C n d A U H1 := by
  obtain ⟨c, k, i, f, a, cell, h1, h2, h3, h4, h5, h6, h7, h8, h9, h10⟩ := h
  exact ⟨c, k, i, f, a, cell, h1, h2, h3, h4, by rw [hq a (Array.getElem?_eq_some_iff.mp h5).1 h10]; exact h5, h6, h7, h8, h9, h10⟩
theorem vx_L.narrow {C n d : String} {A B : Nat → Prop} {U : State} {H : Heap} (h : vx_L C n d A U H) (hAB : ∀ q, B q → A q) : vx_L C n d B U H := by
  obtain ⟨c, k, i, f, a, cell, h1, h2, h3, h4, h5, h6, h7, h8, h9, h10⟩ := h
  exact ⟨c, k, i, f, a, cell, h1, h2, h3, h4, h5, h6, h7, h8, h9, fun z => h10 (hAB _ z)⟩
theorem vx_L.word {C n d : String} {A : Nat → Prop} {s : State} {args : Array Value} (h : vx_L C n d A s s.heap) : (Cond.laysStatic C n d).before args s = true := by
  obtain ⟨c, k, i, f, a, cell, h1, h2, h3, h4, h5, h6, h7, h8, h9, -⟩ := h
  show (Cond.laysStatic C n d).holds args s none s [] = true
  exact Cond.laysStatic_of h1 h2 h3 h4 h5 h6 h7 h8 h9
/-- .. and what it holds: null or some reference -/
def vx_Zq (C n d : String) (A : Nat → Prop) (U : State) (H : Heap) : Prop := va_Zq C n d A U H ∧ vx_L C n d A U H
theorem vx_Zq.moved {C n d : String} {A : Nat → Prop} {u U : State} {H : Heap} (hvm : u.vm.Alike U.vm) (h : vx_Zq C n d A u H) : vx_Zq C n d A U H := ⟨va_Zq.moved hvm h.1, vx_L.moved hvm h.2⟩
theorem vx_Zq.kept {C n d : String} {A : Nat → Prop} {U : State} {H H1 : Heap} (h : vx_Zq C n d A U H) (hq : ∀ a : Nat, a < H.size → ¬ A a → H1[a]? = H[a]?) : vx_Zq C n d A U H1 := ⟨va_Zq.kept h.1 hq, vx_L.kept h.2 hq⟩
theorem vx_Zq.narrow {C n d : String} {A B : Nat → Prop} {U : State} {H : Heap} (h : vx_Zq C n d A U H) (hAB : ∀ q, B q → A q) : vx_Zq C n d B U H := ⟨va_Zq.narrow h.1 hAB, vx_L.narrow h.2 hAB⟩
theorem vx_Zqof {args : Array Value} {s : State} {C n d : String} {A : Nat → Prop} (hl : (Cond.laysStatic C n d).before args s = true) (hini : (Cond.initialized C).before args s = true) (h : (Cond.isRef (.static C n d)).before args s = true) (hA : ∀ a : Nat, a < s.heap.size → ¬ A a) : vx_Zq C n d A s s.heap := by
  refine ⟨va_Zqof hl hini h hA, ?_⟩
  obtain ⟨c, k, i, f, a, cell, h1, h2, h3, h4, h5, h6, h7, h8, h9⟩ := Cond.laysStatic_spec hl
  exact ⟨c, k, i, f, a, cell, h1, h2, h3, h4, h5, h6, h7, h8, h9, hA a (Array.getElem?_eq_some_iff.mp h5).1⟩
theorem vx_isRef {C n d : String} {v : Value} {A : Nat → Prop} {s : State} {args : Array Value} (h : va_Z C n d v A s s.heap) (hv : v.isRef = true) : (Cond.isRef (.static C n d)).before args s = true := by
  obtain ⟨cf, kf, fi, f, a, cell, h1, h2, h3, h4, h5, h6, h7, -⟩ := h
  have he : (Term.static C n d).eval args s none [] s = some v := by
    simp [Term.eval, State.fieldNamed?, h1, h2, h4, h5, h6, h7]
  simp only [Cond.before, Cond.holds, Cond.value, he]
  cases v <;> simp_all [Value.isRef]
theorem vx_isRefq {C n d : String} {A : Nat → Prop} {s : State} {args : Array Value} (h : va_Zq C n d A s s.heap) : (Cond.isRef (.static C n d)).before args s = true := by
  rcases h with h | ⟨t, h⟩
  · exact vx_isRef h rfl
  · exact vx_isRef h rfl
/-- the same frame, seen from here: as if the method were called anew in this heap -/
theorem vx_rebase {T : State} (X : Stand p l e R s m args below meth c T locs cells slots) {R' : Room} (hf : R'.frames ≤ R.frames) (hl : R'.locals ≤ R.locals) (hc : cells + R'.cells ≤ R.cells) (hs : slots + R'.slots ≤ R.slots) :
    Stand p l e R' ((T.setVm s.vm).setFrames (.invoking m args :: below)) m args below meth c T [] 0 0 := by
  have htop : (T.setVm s.vm).topJava?.isSome := X.here.top
  have hF : ((T.setVm s.vm).setFrames (.invoking m args :: below)).frames = .invoking m args :: below := State.frames_setFrames _ (State.cur_lt_of_top htop)
  obtain ⟨g₀, hg0⟩ := Option.isSome_iff_exists.mp htop
  obtain ⟨r, hr⟩ := State.topJava?_eq_some.mp hg0
  have hl9 : e.platform.stackLimits (T.setVm s.vm).me = e.platform.stackLimits s.me := X.limits
  have hb9 : (T.setVm s.vm).me.stackBytes = s.me.stackBytes := X.bytes
  refine ⟨X.admits, X.cas, X.clock, hF, ?_, X.hears, X.method, X.code, X.here, X.tail, X.warmed, ?_, ?_, ?_⟩
  · have h := X.room
    have hU : ((T.setVm s.vm).setFrames (.invoking m args :: below)).localsInUse = s.localsInUse := by
      rw [State.localsInUse_invoking hF (meth := meth) (c := c) X.method X.code, State.localsInUse_invoking X.frames X.method X.code]
    simp only [State.hasRoom, Bool.and_eq_true, decide_eq_true_eq] at h ⊢
    obtain ⟨⟨⟨⟨h1, h2, h3, h4, h5, h6⟩, h7⟩, h8⟩, h9⟩ := h
    rw [X.frames, List.length_cons] at h2 h3
    have q1 := X.heapSize
    have q2 := X.used
    simp only [hF, hU, List.length_cons, State.stackLimits_setFrames, State.stackBytes_setFrames, hl9, hb9]
    refine ⟨⟨⟨⟨by omega, by omega, by omega, by omega, by omega, h6⟩, ?_⟩, ?_⟩, X.book⟩
    · show T.heap.size + R'.cells ≤ e.platform.maxCells
      omega
    · show T.slotsUsed + R'.slots ≤ e.platform.maxSlots
      omega
  · rw [State.stackLimits_setFrames]; rfl
  · rw [State.stackBytes_setFrames]; rfl
  · refine ⟨?_, Nat.le_refl _, Nat.le_refl _, ?_, ?_, fun a c9 h9 => ⟨c9, h9, rfl, rfl, fun _ _ => rfl⟩⟩
    · obtain ⟨t, ht, -⟩ := State.frames_cons hr
      show T.setVm s.vm = { ((T.setVm s.vm).setFrames (.invoking m args :: below)).setFrames (T.setVm s.vm).frames with heap := T.heap, slotsUsed := T.slotsUsed }
      rw [State.setFrames_setFrames, State.setFrames_self ht]
      rfl
    · show T.slotsUsed = T.slotsUsed + ((T.heap.toList.drop T.heap.size).map (·.slots.size)).sum
      rw [List.drop_eq_nil_of_le (Nat.le_of_eq Array.length_toList)]
      rfl
    · show ((T.heap.toList.drop T.heap.size).map (·.slots.size)).sum ≤ 0
      rw [List.drop_eq_nil_of_le (Nat.le_of_eq Array.length_toList)]
      exact Nat.le_refl _
/-- 'throw new E()': new; dup; invokespecial; athrow -/
theorem vx_throw0 {cc : ByteArray} {pc : Nat} (hexec : p.tables.exec = Jvm.exec) (hb : c.code = cc) (hl : l.stackTraces = false) {own cls : String} {names : List String} {ik ic mc ms : Nat} {A : Nat → Prop}
    (hown : s.vm.findClass own = some m.cls) (hcls : Bundle.fit cls = true) (hnames : ∀ n ∈ names, Bundle.fit n = true)
    (hk : (Cond.classLink own ik cls).before args s = true) (hini : (Cond.initialized cls).before args s = true) (hat : ∀ w ∈ vx_at0 own ic cls names, w.before args s = true)
    (hgood : ∀ w ∈ Cond.classLink own ik cls :: Cond.initialized cls :: vx_at0 own ic cls names, vx_ot w = true)
    (hU : vx_Zq Bundle.tN "UNASSIGNED_STACK" Bundle.steD A s s.heap) (hN : vx_Zq Bundle.tN "SUPPRESSED_SENTINEL" Bundle.listD A s s.heap) (hS : va_S A s.heap H locs) (hsize : ls.size = c.maxLocals)
    (d0 : decode cc pc = .ok (.new ik, 3)) (d3 : decode cc (pc + 3) = .ok (.dup, 1)) (d4 : decode cc (pc + 4) = .ok (.invokespecial ic, 3)) (d7 : decode cc (pc + 7) = .ok (.athrow, 1))
    (hout : ∀ x ∈ c.exceptionTable.toList, covers x (pc + 7) = false)
    (hRframes : names.length + 3 < R.frames) (hRlocals : (rest.map fun v => v.category).sum + (13 * (names.length + 1) + 42) ≤ R.locals) (hRcells : cells + 1 ≤ R.cells) (hRslots : slots + 6 ≤ R.slots) (hlocks : meth.locks = false)
    (hx : ∀ t : State, s.vm.Alike t.vm → H.size ≤ t.heap.size → (∀ q : Nat, q < H.size → t.heap[q]? = H[q]?) → XC cls s t)
    (hf : ∀ z ∈ locs, free z.base) (hc : cells + 1 ≤ mc) (hs : slots + 6 ≤ ms) :
    W p l e R s m args below meth c H locs cells slots (vx_MQ below Qc XC args s mc ms free) (F0 m pc ls rest) := by
  intro T hT X
  have htr : e.platform.stackTraces = false := (show e.platform.stackTraces = l.stackTraces by rw [X.admits.platform]).trans hl
  have Y := vx_rebase X (R' := { frames := R.frames, locals := R.locals, cells := 1, slots := 6 }) (Nat.le_refl _) (Nat.le_refl _) hRcells hRslots
  obtain ⟨s', hA⟩ : ∃ z, z = (T.setVm s.vm).setFrames (.invoking m args :: below) := ⟨_, rfl⟩
  rw [← hA] at Y
  have hvm : s'.vm = s.vm := by rw [hA]; rfl
  have hhp : s'.heap = H := by rw [hA]; exact hT
  have hW0 : s.WarmedH s'.vm := by rw [hvm]; exact State.WarmedH.refl s
  have hat' : ∀ w ∈ vx_at0 own ic cls names, w.before args s' = true := fun w hw => vx_ot_at hW0 hvm.symm (hgood w (List.mem_cons_of_mem _ (List.mem_cons_of_mem _ hw))) (hat w hw)
  have hk' : (Cond.classLink own ik cls).before args s' = true := vx_ot_at hW0 hvm.symm (hgood _ List.mem_cons_self) hk
  have hini' : (Cond.initialized cls).before args s' = true := vx_ot_at hW0 hvm.symm (hgood _ (List.mem_cons_of_mem _ List.mem_cons_self)) hini
  have hU' : vx_Zq Bundle.tN "UNASSIGNED_STACK" Bundle.steD A s' s'.heap := by rw [hhp]; exact vx_Zq.moved hW0.alike (hU.kept hS.2.1)
  have hN' : vx_Zq Bundle.tN "SUPPRESSED_SENTINEL" Bundle.listD A s' s'.heap := by rw [hhp]; exact vx_Zq.moved hW0.alike (hN.kept hS.2.1)
  have h : ∀ w ∈ Bundle.ownAtoms0 own ic cls names, w.before args s' = true := vx_own hat' (vx_isRefq hU'.1) (vx_isRefq hN'.1) hU'.2.word hN'.2.word
  have hown' : s'.vm.findClass own = some m.cls := by rw [hvm]; exact hown
  have hins : (Cond.instantiable cls 6).before args s' = true := h _ (by simp [Bundle.ownAtoms0])
  obtain ⟨vm₁, cX, kX, hfX, hkX, -, -, X₁, st1⟩ := Y.newCold hexec (own := own) (C := cls) (index := ik) (n := 6) hown' hk' hins hini'
    (g := F0 m pc ls rest) rfl (by rw [hb]; exact d0) (Nat.le_refl _) (Nat.le_refl _)
  generalize hT1 : (T.setVm vm₁).pushCell { cls := cX, slots := kX.instanceTypes.map defaultValue, vm := .none } = T1 at X₁ st1
  have hcat : (Value.ref T.heap.size).category = 1 := rfl
  have hcellA : T1.heap[T.heap.size]? = some (freshCell cX kX) := by rw [← hT1]; exact State.heap_pushCell_size _ _
  have d3' : decode c.code (pc + 3) = .ok (.dup, 1) := by rw [hb]; exact d3
  obtain ⟨U, hsteps, hrun, hend, hW, hsame, ce, hce, hO⟩ := X₁.ctorThrow0 hexec htr (own := own) (cls := cls) (names := names) (ic := ic) hown' hcls hnames h (fun x hx => nomatch hx) hfX hkX hcellA (by rw [hhp, hT]; exact Nat.le_refl _)
    (g := { method := m, pc := pc + 4, locals := ls, stack := .ref T.heap.size :: .ref T.heap.size :: rest, locked := none }) rfl hsize rfl rfl (rest := rest) rfl
    (by rw [hb]; exact d4) (by rw [hb]; exact d7) hout hRframes (by simp only [List.map_cons, List.sum_cons, hcat]; omega) hlocks
  obtain ⟨f1, f2⟩ := vx_frame hsame
  rw [hhp] at f1 f2
  have hWs : s.WarmedH U.vm := State.WarmedH.trans hW0 hW
  have hcl : s.vm.findClass cls = some ce.cls := by
    have h9 := hO.cls
    rw [hvm] at h9
    exact h9
  have hall : s.sameButNew ({ U with vm := s.vm } : State) locs mc ms := by
    subst hA
    obtain ⟨e1, e2⟩ := hsame
    rw [State.setFrames_setFrames] at e1
    have h2 : (T.setVm s.vm).sameButNew ({ U with vm := s.vm } : State) [] (0 + 1) (0 + 6) := ⟨e1, e2⟩
    have h3 := X.same.trans h2
    rw [List.append_nil] at h3
    exact h3.mono hc hs
  refine ⟨U, ?_, .threw T.heap.size, hrun, hend, Or.inr ⟨T.heap.size, rfl, cls, ce, locs, hx U hWs.alike f1 (fun q hq => f2 q hq (fun z hz => nomatch hz)), hce, hO.vm, hcl, hWs, hall, hf⟩⟩
  refine st1 _ ?_
  show Steps p.tables e below (T1.setTop { method := m, pc := pc + 3, locals := ls, stack := .ref T.heap.size :: rest, locked := none }) _
  jvm_step X₁.here [X₁.here.top, hexec, d3', Value.category]
  exact hsteps
/-- 'throw new E("text")': new; dup; ldc; invokespecial; athrow -/
theorem vx_throwS {cc : ByteArray} {pc : Nat} (hexec : p.tables.exec = Jvm.exec) (hb : c.code = cc) (hl : l.stackTraces = false) {own cls text : String} {names : List String} {ik is ic mc ms sa : Nat} {A : Nat → Prop}
    (hown : s.vm.findClass own = some m.cls) (hcls : Bundle.fit cls = true) (hnames : ∀ n ∈ names, Bundle.fit n = true)
    (hk : (Cond.classLink own ik cls).before args s = true) (hini : (Cond.initialized cls).before args s = true) (hstr : vk_R own is text sa s) (hat : ∀ w ∈ vx_atS own ic cls names, w.before args s = true)
    (hgood : ∀ w ∈ Cond.classLink own ik cls :: Cond.initialized cls :: vx_atS own ic cls names, vx_ot w = true)
    (hU : vx_Zq Bundle.tN "UNASSIGNED_STACK" Bundle.steD A s s.heap) (hN : vx_Zq Bundle.tN "SUPPRESSED_SENTINEL" Bundle.listD A s s.heap) (hS : va_S A s.heap H locs) (hsize : ls.size = c.maxLocals)
    (d0 : decode cc pc = .ok (.new ik, 3)) (d3 : decode cc (pc + 3) = .ok (.dup, 1)) (d4 : decode cc (pc + 4) = .ok (.ldc is, 2)) (d6 : decode cc (pc + 6) = .ok (.invokespecial ic, 3)) (d9 : decode cc (pc + 9) = .ok (.athrow, 1))
    (hout : ∀ x ∈ c.exceptionTable.toList, covers x (pc + 9) = false)
    (hRframes : names.length + 3 < R.frames) (hRlocals : (rest.map fun v => v.category).sum + (13 * (names.length + 1) + 43) ≤ R.locals) (hRcells : cells + 1 ≤ R.cells) (hRslots : slots + 6 ≤ R.slots) (hlocks : meth.locks = false)
    (hx : ∀ t : State, s.vm.Alike t.vm → H.size ≤ t.heap.size → (∀ q : Nat, q < H.size → t.heap[q]? = H[q]?) → XC cls s t)
    (hf : ∀ z ∈ locs, free z.base) (hc : cells + 1 ≤ mc) (hs : slots + 6 ≤ ms) :
    W p l e R s m args below meth c H locs cells slots (vx_MQ below Qc XC args s mc ms free) (F0 m pc ls rest) := by
  intro T hT X
  have htr : e.platform.stackTraces = false := (show e.platform.stackTraces = l.stackTraces by rw [X.admits.platform]).trans hl
  have Y := vx_rebase X (R' := { frames := R.frames, locals := R.locals, cells := 1, slots := 6 }) (Nat.le_refl _) (Nat.le_refl _) hRcells hRslots
  obtain ⟨s', hA⟩ : ∃ z, z = (T.setVm s.vm).setFrames (.invoking m args :: below) := ⟨_, rfl⟩
  rw [← hA] at Y
  have hvm : s'.vm = s.vm := by rw [hA]; rfl
  have hhp : s'.heap = H := by rw [hA]; exact hT
  have hW0 : s.WarmedH s'.vm := by rw [hvm]; exact State.WarmedH.refl s
  have hat' : ∀ w ∈ vx_atS own ic cls names, w.before args s' = true := fun w hw => vx_ot_at hW0 hvm.symm (hgood w (List.mem_cons_of_mem _ (List.mem_cons_of_mem _ hw))) (hat w hw)
  have hk' : (Cond.classLink own ik cls).before args s' = true := vx_ot_at hW0 hvm.symm (hgood _ List.mem_cons_self) hk
  have hini' : (Cond.initialized cls).before args s' = true := vx_ot_at hW0 hvm.symm (hgood _ (List.mem_cons_of_mem _ List.mem_cons_self)) hini
  have hU' : vx_Zq Bundle.tN "UNASSIGNED_STACK" Bundle.steD A s' s'.heap := by rw [hhp]; exact vx_Zq.moved hW0.alike (hU.kept hS.2.1)
  have hN' : vx_Zq Bundle.tN "SUPPRESSED_SENTINEL" Bundle.listD A s' s'.heap := by rw [hhp]; exact vx_Zq.moved hW0.alike (hN.kept hS.2.1)
  have h : ∀ w ∈ Bundle.ownAtoms own ic cls names, w.before args s' = true := vx_own hat' (vx_isRefq hU'.1) (vx_isRefq hN'.1) hU'.2.word hN'.2.word
  have hown' : s'.vm.findClass own = some m.cls := by rw [hvm]; exact hown
  have hins : (Cond.instantiable cls 6).before args s' = true := h _ (by simp [Bundle.ownAtoms])
  obtain ⟨vm₁, cX, kX, hfX, hkX, -, -, X₁, st1⟩ := Y.newCold hexec (own := own) (C := cls) (index := ik) (n := 6) hown' hk' hins hini'
    (g := F0 m pc ls rest) rfl (by rw [hb]; exact d0) (Nat.le_refl _) (Nat.le_refl _)
  generalize hT1 : (T.setVm vm₁).pushCell { cls := cX, slots := kX.instanceTypes.map defaultValue, vm := .none } = T1 at X₁ st1
  have hcat : (Value.ref T.heap.size).category = 1 := rfl
  have hcellA : T1.heap[T.heap.size]? = some (freshCell cX kX) := by rw [← hT1]; exact State.heap_pushCell_size _ _
  have d3' : decode c.code (pc + 3) = .ok (.dup, 1) := by rw [hb]; exact d3
  have d4' : decode c.code (pc + 4) = .ok (.ldc is, 2) := by rw [hb]; exact d4
  have hstr' : vk_R own is text sa s' := vk_R.warm hW0 hstr
  obtain ⟨U, hsteps, hrun, hend, hW, hsame, ce, hce, hO⟩ := X₁.ctorThrowS hexec htr (own := own) (cls := cls) (names := names) (ic := ic) hown' hcls hnames h (fun x hx => nomatch hx) hfX hkX hcellA (by rw [hhp, hT]; exact Nat.le_refl _) (msg := .ref sa) rfl
    (g := { method := m, pc := pc + 6, locals := ls, stack := .ref sa :: .ref T.heap.size :: .ref T.heap.size :: rest, locked := none }) rfl hsize rfl rfl (rest := rest) rfl
    (by rw [hb]; exact d6) (by rw [hb]; exact d9) hout hRframes (by simp only [List.map_cons, List.sum_cons, hcat]; omega) hlocks
  obtain ⟨f1, f2⟩ := vx_frame hsame
  rw [hhp] at f1 f2
  have hWs : s.WarmedH U.vm := State.WarmedH.trans hW0 hW
  have hcl : s.vm.findClass cls = some ce.cls := by
    have h9 := hO.cls
    rw [hvm] at h9
    exact h9
  have hall : s.sameButNew ({ U with vm := s.vm } : State) locs mc ms := by
    subst hA
    obtain ⟨e1, e2⟩ := hsame
    rw [State.setFrames_setFrames] at e1
    have h2 : (T.setVm s.vm).sameButNew ({ U with vm := s.vm } : State) [] (0 + 1) (0 + 6) := ⟨e1, e2⟩
    have h3 := X.same.trans h2
    rw [List.append_nil] at h3
    exact h3.mono hc hs
  refine ⟨U, ?_, .threw T.heap.size, hrun, hend, Or.inr ⟨T.heap.size, rfl, cls, ce, locs, hx U hWs.alike f1 (fun q hq => f2 q hq (fun z hz => nomatch hz)), hce, hO.vm, hcl, hWs, hall, hf⟩⟩
  refine st1 _ ?_
  show Steps p.tables e below (T1.setTop { method := m, pc := pc + 3, locals := ls, stack := .ref T.heap.size :: rest, locked := none }) _
  jvm_step X₁.here [X₁.here.top, hexec, d3', Value.category]
  exact X₁.ldcString hexec (own := own) (text := text) (index := is) (a := sa) hown' hstr'.1 hstr'.2
    (g := { method := m, pc := pc + 4, locals := ls, stack := .ref T.heap.size :: .ref T.heap.size :: rest, locked := none }) rfl d4' _ hsteps
/-- 'throw new E("text")', the text by a wide index -/
theorem vx_throwSW {cc : ByteArray} {pc : Nat} (hexec : p.tables.exec = Jvm.exec) (hb : c.code = cc) (hl : l.stackTraces = false) {own cls text : String} {names : List String} {ik is ic mc ms sa : Nat} {A : Nat → Prop}
    (hown : s.vm.findClass own = some m.cls) (hcls : Bundle.fit cls = true) (hnames : ∀ n ∈ names, Bundle.fit n = true)
    (hk : (Cond.classLink own ik cls).before args s = true) (hini : (Cond.initialized cls).before args s = true) (hstr : vk_R own is text sa s) (hat : ∀ w ∈ vx_atS own ic cls names, w.before args s = true)
    (hgood : ∀ w ∈ Cond.classLink own ik cls :: Cond.initialized cls :: vx_atS own ic cls names, vx_ot w = true)
    (hU : vx_Zq Bundle.tN "UNASSIGNED_STACK" Bundle.steD A s s.heap) (hN : vx_Zq Bundle.tN "SUPPRESSED_SENTINEL" Bundle.listD A s s.heap) (hS : va_S A s.heap H locs) (hsize : ls.size = c.maxLocals)
    (d0 : decode cc pc = .ok (.new ik, 3)) (d3 : decode cc (pc + 3) = .ok (.dup, 1)) (d4 : decode cc (pc + 4) = .ok (.ldc_w is, 3)) (d7 : decode cc (pc + 7) = .ok (.invokespecial ic, 3)) (d10 : decode cc (pc + 10) = .ok (.athrow, 1))
    (hout : ∀ x ∈ c.exceptionTable.toList, covers x (pc + 10) = false)
    (hRframes : names.length + 3 < R.frames) (hRlocals : (rest.map fun v => v.category).sum + (13 * (names.length + 1) + 43) ≤ R.locals) (hRcells : cells + 1 ≤ R.cells) (hRslots : slots + 6 ≤ R.slots) (hlocks : meth.locks = false)
    (hx : ∀ t : State, s.vm.Alike t.vm → H.size ≤ t.heap.size → (∀ q : Nat, q < H.size → t.heap[q]? = H[q]?) → XC cls s t)
    (hf : ∀ z ∈ locs, free z.base) (hc : cells + 1 ≤ mc) (hs : slots + 6 ≤ ms) :
    W p l e R s m args below meth c H locs cells slots (vx_MQ below Qc XC args s mc ms free) (F0 m pc ls rest) := by
  intro T hT X
  have htr : e.platform.stackTraces = false := (show e.platform.stackTraces = l.stackTraces by rw [X.admits.platform]).trans hl
  have Y := vx_rebase X (R' := { frames := R.frames, locals := R.locals, cells := 1, slots := 6 }) (Nat.le_refl _) (Nat.le_refl _) hRcells hRslots
  obtain ⟨s', hA⟩ : ∃ z, z = (T.setVm s.vm).setFrames (.invoking m args :: below) := ⟨_, rfl⟩
  rw [← hA] at Y
  have hvm : s'.vm = s.vm := by rw [hA]; rfl
  have hhp : s'.heap = H := by rw [hA]; exact hT
  have hW0 : s.WarmedH s'.vm := by rw [hvm]; exact State.WarmedH.refl s
  have hat' : ∀ w ∈ vx_atS own ic cls names, w.before args s' = true := fun w hw => vx_ot_at hW0 hvm.symm (hgood w (List.mem_cons_of_mem _ (List.mem_cons_of_mem _ hw))) (hat w hw)
  have hk' : (Cond.classLink own ik cls).before args s' = true := vx_ot_at hW0 hvm.symm (hgood _ List.mem_cons_self) hk
  have hini' : (Cond.initialized cls).before args s' = true := vx_ot_at hW0 hvm.symm (hgood _ (List.mem_cons_of_mem _ List.mem_cons_self)) hini
  have hU' : vx_Zq Bundle.tN "UNASSIGNED_STACK" Bundle.steD A s' s'.heap := by rw [hhp]; exact vx_Zq.moved hW0.alike (hU.kept hS.2.1)
  have hN' : vx_Zq Bundle.tN "SUPPRESSED_SENTINEL" Bundle.listD A s' s'.heap := by rw [hhp]; exact vx_Zq.moved hW0.alike (hN.kept hS.2.1)
  have h : ∀ w ∈ Bundle.ownAtoms own ic cls names, w.before args s' = true := vx_own hat' (vx_isRefq hU'.1) (vx_isRefq hN'.1) hU'.2.word hN'.2.word
  have hown' : s'.vm.findClass own = some m.cls := by rw [hvm]; exact hown
  have hins : (Cond.instantiable cls 6).before args s' = true := h _ (by simp [Bundle.ownAtoms])
  obtain ⟨vm₁, cX, kX, hfX, hkX, -, -, X₁, st1⟩ := Y.newCold hexec (own := own) (C := cls) (index := ik) (n := 6) hown' hk' hins hini'
    (g := F0 m pc ls rest) rfl (by rw [hb]; exact d0) (Nat.le_refl _) (Nat.le_refl _)
  generalize hT1 : (T.setVm vm₁).pushCell { cls := cX, slots := kX.instanceTypes.map defaultValue, vm := .none } = T1 at X₁ st1
  have hcat : (Value.ref T.heap.size).category = 1 := rfl
  have hcellA : T1.heap[T.heap.size]? = some (freshCell cX kX) := by rw [← hT1]; exact State.heap_pushCell_size _ _
  have d3' : decode c.code (pc + 3) = .ok (.dup, 1) := by rw [hb]; exact d3
  have d4' : decode c.code (pc + 4) = .ok (.ldc_w is, 3) := by rw [hb]; exact d4
  have hstr' : vk_R own is text sa s' := vk_R.warm hW0 hstr
  obtain ⟨U, hsteps, hrun, hend, hW, hsame, ce, hce, hO⟩ := X₁.ctorThrowS hexec htr (own := own) (cls := cls) (names := names) (ic := ic) hown' hcls hnames h (fun x hx => nomatch hx) hfX hkX hcellA (by rw [hhp, hT]; exact Nat.le_refl _) (msg := .ref sa) rfl
    (g := { method := m, pc := pc + 7, locals := ls, stack := .ref sa :: .ref T.heap.size :: .ref T.heap.size :: rest, locked := none }) rfl hsize rfl rfl (rest := rest) rfl
    (by rw [hb]; exact d7) (by rw [hb]; exact d10) hout hRframes (by simp only [List.map_cons, List.sum_cons, hcat]; omega) hlocks
  obtain ⟨f1, f2⟩ := vx_frame hsame
  rw [hhp] at f1 f2
  have hWs : s.WarmedH U.vm := State.WarmedH.trans hW0 hW
  have hcl : s.vm.findClass cls = some ce.cls := by
    have h9 := hO.cls
    rw [hvm] at h9
    exact h9
  have hall : s.sameButNew ({ U with vm := s.vm } : State) locs mc ms := by
    subst hA
    obtain ⟨e1, e2⟩ := hsame
    rw [State.setFrames_setFrames] at e1
    have h2 : (T.setVm s.vm).sameButNew ({ U with vm := s.vm } : State) [] (0 + 1) (0 + 6) := ⟨e1, e2⟩
    have h3 := X.same.trans h2
    rw [List.append_nil] at h3
    exact h3.mono hc hs
  refine ⟨U, ?_, .threw T.heap.size, hrun, hend, Or.inr ⟨T.heap.size, rfl, cls, ce, locs, hx U hWs.alike f1 (fun q hq => f2 q hq (fun z hz => nomatch hz)), hce, hO.vm, hcl, hWs, hall, hf⟩⟩
  refine st1 _ ?_
  show Steps p.tables e below (T1.setTop { method := m, pc := pc + 3, locals := ls, stack := .ref T.heap.size :: rest, locked := none }) _
  jvm_step X₁.here [X₁.here.top, hexec, d3', Value.category]
  exact X₁.ldcStringW hexec (own := own) (text := text) (index := is) (a := sa) hown' hstr'.1 hstr'.2
    (g := { method := m, pc := pc + 4, locals := ls, stack := .ref T.heap.size :: .ref T.heap.size :: rest, locked := none }) rfl d4' _ hsteps
end Ends
section Bodies
variable {l : Launch}
theorem vx_ofW {y : MethodName} {ws ws' : List Cond} {rm : Room} {Pc : Array Value → State → Prop} {Qc : Array Value → State → Outcome → State → Prop} {XC : String → State → State → Prop} {mc ms : Nat} {free : Addr → Prop} {cc : ByteArray} {maxL : Nat} {ret : Option FieldType}
    (hy : plainName y.cls = true) (hw : ws = Cond.code y cc maxL ret :: ws')
    (body : ∀ p e s m args below meth c s₁, BodyLoose p l y (headSpec ws rm) cc maxL ret e s m args below meth c s₁ → c.maxLocals = maxL → (∀ x ∈ c.exceptionTable.toList, False) → Pc args s →
      W p l e (headSpec ws rm).room s m args below meth c s.heap [] 0 0 (vx_MQ below Qc XC args s mc ms free) (entryFrame m args maxL)) : vx_Met l y ws rm Pc Qc XC mc ms free := by
  refine MetFree.of_bodyS (code := cc) (maxLocals := maxL) (ret := ret) hy ?_ ?_
  · intro args s m h hn
    obtain ⟨meth, c, h1, h2, h3, h4, h5, h6, -, -⟩ := Cond.code_spec hn (atoms_spec (ws := ws) h _ (by rw [hw]; exact List.mem_cons_self))
    exact ⟨meth, c, h1, h2, h3, h4, h5, h6⟩
  · intro p e s m args below meth c s₁ B hml hP _
    have hh0 : s₁.heap = s.heap := by rw [B.state]; rfl
    have ht : ∀ x ∈ c.exceptionTable.toList, False := by
      obtain ⟨meth9, c9, h1, h2, -, -, -, -, h7, -⟩ := Cond.code_spec B.named (atoms_spec (ws := ws) B.pre _ (by rw [hw]; exact List.mem_cons_self))
      cases Option.some.inj (h1.symm.trans B.method)
      cases Option.some.inj (h2.symm.trans (Stand.of_body B).code)
      intro x hx
      rw [Array.isEmpty_iff.mp h7] at hx
      cases hx
    obtain ⟨t, a1, o, b1, b2, b3⟩ := body p e s m args below meth c s₁ B hml ht hP s₁ hh0 (Stand.of_body B)
    exact ⟨t, o, a1, b1, b2, b3⟩
/-- the table of a body with handlers -/
theorem vx_table {p : Program} {x y : MethodName} {S : Spec} {cc bytes : ByteArray} {maxL maxL' : Nat} {ret ret' : Option FieldType} {e : Env} {s s₁ : State} {m : MethodId} {args : Array Value} {below : List Frame} {meth : Method} {c : Code} {hh : List (Nat × Nat × Nat × Nat)}
    (B : BodyLoose p l y S cc maxL ret e s m args below meth c s₁) (h : (Cond.codeWith y bytes maxL' ret' hh).before args s = true) : c.exceptionTable.toList = tableOf hh := by
  obtain ⟨m9, meth9, c9, hn9, h1, h2, -, -, h6, -⟩ := Cond.codeWith_spec h
  cases Option.some.inj (hn9.symm.trans B.named)
  cases Option.some.inj (h1.symm.trans B.method)
  cases Option.some.inj (h2.symm.trans (Stand.of_body B).code)
  rw [← h6, table_eq]
end Bodies
end VXA
/-! ===== END ===== -/
/-! ===== BEGIN a static call of a method with an exception table ===== -/
section VXS
variable {p : Program} {l : Launch} {e : Env} {R : Room} {s : State} {m : MethodId} {args : Array Value} {below : List Frame} {meth : Method} {c : Code} {T : State} {H : Heap} {locs : List Loc} {cells slots : Nat}
abbrev vx_CSW (R : Room) (s : State) (args : Array Value) (own : String) (index : Nat) (y : MethodName) (bytes : ByteArray) (maxL : Nat) (ret : Option FieldType) (hh : List (Nat × Nat × Nat × Nat)) (ws : List Cond) (rm : Room) (mc ms n : Nat) : Prop :=
  (rm.cells = mc ∧ rm.slots = ms ∧ rm.frames + 1 ≤ R.frames ∧ 8 + (maxL + 11) + rm.locals ≤ R.locals ∧ (∀ w ∈ ws, ∀ (a' : Array Value) (U : State), s.WarmedH U.vm → w.before a' U = true) ∧ Cond.codeWith y bytes maxL ret hh ∈ ws) ∧
  (Cond.codeWith y bytes maxL ret hh).before args s = true ∧ (Cond.initialized y.cls).before args s = true ∧ (y.cls ≠ "java/lang/invoke/MethodHandle" ∧ y.cls ≠ "java/lang/invoke/VarHandle") ∧
  (∀ sig, parseMethodDescriptor y.desc = some sig → n = sig.parameters.length) ∧ (Cond.methodLink own index y).before args s = true ∧ (Cond.static y).before args s = true
theorem vx_cwSW {own : String} {index maxL mc ms : Nat} {y : MethodName} {bytes : ByteArray} {ret : Option FieldType} {hh : List (Nat × Nat × Nat × Nat)} {Ts ws ws' : List Cond} {rm : Room} (n : Nat) (ht : ∀ w ∈ Ts, w.before args s = true) (hT : GoodIn Ts (va_wsS own index y ws)) (hw : ws = Cond.codeWith y bytes maxL ret hh :: ws') (hrc : rm.cells = mc) (hrs : rm.slots = ms)
    (hd : y.cls ≠ "java/lang/invoke/MethodHandle" ∧ y.cls ≠ "java/lang/invoke/VarHandle" ∧ (parseMethodDescriptor y.desc).map (fun d => d.parameters.length) = some n) (hR : rm.frames + 1 ≤ R.frames ∧ 8 + (maxL + 11) + rm.locals ≤ R.locals) :
    vx_CSW R s args own index y bytes maxL ret hh ws rm mc ms n := by
  have ok : ∀ w ∈ va_wsS own index y ws, w.before args s = true := fun w h => ht w (hT w h).1
  have hG : GoodIn Ts ws := fun w h => hT w (by unfold va_wsS; exact List.mem_append_right _ h)
  have hc : Cond.codeWith y bytes maxL ret hh ∈ ws := by rw [hw]; exact List.mem_cons_self
  refine ⟨⟨hrc, hrs, hR.1, hR.2, pay_in ht hG, hc⟩, ht _ (hG _ hc).1, ok _ (by simp [va_wsS]), ⟨hd.1, hd.2.1⟩, fun sig h => ?_, ok _ (by simp [va_wsS]), ok _ (by simp [va_wsS])⟩
  have h2 := hd.2.2
  rw [h] at h2
  exact (Option.some.inj h2).symm
theorem vx_callSW (X : Stand p l e R s m args below meth c T locs cells slots) (hexec : p.tables.exec = Jvm.exec) {own : String} {index : Nat} {y : MethodName} {bytes : ByteArray} {maxL : Nat} {ret : Option FieldType} {hh : List (Nat × Nat × Nat × Nat)}
    (hown : s.vm.findClass own = some m.cls) (hlink : (Cond.methodLink own index y).before args s = true) (hstat : (Cond.static y).before args s = true) (hinit : (Cond.initialized y.cls).before args s = true)
    (hcode : (Cond.codeWith y bytes maxL ret hh).before args s = true) (hy : y.cls ≠ "java/lang/invoke/MethodHandle" ∧ y.cls ≠ "java/lang/invoke/VarHandle")
    {W9 : Nat} {Pre : Pt → Array Value → Prop} {Post : Pt → Array Value → Option Value → Pt → Prop} (hK : Back l R p e below s args y 3 W9 Pre Post)
    {g : JFrame} (hg : g.method = m) (hsize : g.locals.size = c.maxLocals) {argsL rest : List Value} (hlen : ∀ sig, parseMethodDescriptor y.desc = some sig → argsL.length = sig.parameters.length)
    (hstack : g.stack = argsL.reverse ++ rest) (hW : 2 * g.monitorRoom + (rest.map fun v => v.category).sum ≤ W9) (hdg : decode c.code g.pc = .ok (.invokestatic index, 3))
    (hpre : ∀ vm₁, s.WarmedH vm₁ → Pre ⟨T.setVm vm₁, locs, cells, slots⟩ argsL.toArray) :
    ∃ (v : Option Value) (vm₁ : Vm) (B : Pt), s.WarmedH vm₁ ∧ Stand p l e R s m args below meth c B.U B.locs B.cells B.slots ∧ Post ⟨T.setVm vm₁, locs, cells, slots⟩ argsL.toArray v B ∧
      ∀ target, Steps p.tables e below (B.U.setTop { g with pc := g.pc + 3, stack := v.toList ++ rest }) target → Steps p.tables e below (T.setTop g) target := by
  obtain ⟨mk, methM, cM, hnamed, hmethM, -, -, -, -, -, -, hsigM⟩ := Cond.codeWith_spec hcode
  have hstatic : methM.isStatic = true := Cond.static_spec hnamed hmethM hstat
  obtain ⟨kP, hkP, -⟩ := className_of_methodNamed hnamed
  have hinitP : kP.init = .initialized := Cond.initialized_spec (findClass_of_methodNamed hnamed) hkP hinit
  obtain ⟨vm₁, X₁, hstep₁⟩ := X.invokestatic hexec hown hlink hnamed hmethM hstatic hkP hinitP hy (g := g) hg (argsL := argsL) (rest := rest) (hlen _ hsigM) hstack hdg
  obtain ⟨v, B, X', hpost, hsteps⟩ := hK m meth c ⟨T.setVm vm₁, locs, cells, slots⟩ { g with stack := rest } (.invokestatic index) mk argsL.toArray X₁ hg hsize hdg hW (X₁.named hnamed) (hpre vm₁ X₁.warmed)
  exact ⟨v, vm₁, B, X₁.warmed, X', hpost, fun target h => hstep₁ _ fun acts => by rw [doInvoke_state]; exact hsteps.trans h⟩
theorem vx_runSW {y : MethodName} {bytes cc : ByteArray} {maxL nL mc ms n index : Nat} {ret : Option FieldType} {hh : List (Nat × Nat × Nat × Nat)} {ws : List Cond} {rm : Room} {Pc : Array Value → State → Prop} {Qc : Array Value → State → Outcome → State → Prop} {free : Addr → Prop} {Ts : List Cond} {own : String} {As rest : List Value} {g : JFrame}
    (S : CallFix p m c cc nL s args Ts own) (hM : Met l y ws rm Pc Qc mc ms free) (cw : vx_CSW R s args own index y bytes maxL ret hh ws rm mc ms n) (hp : PreS s H Pc As)
    (hg : g.method = m) (hn : As.length = n) (hsize : g.locals.size = nL) (hstack : g.stack = As.reverse ++ rest) (hW : 2 * g.monitorRoom + (rest.map fun v => v.category).sum ≤ 8) (hdg : decode cc g.pc = .ok (.invokestatic index, 3)) (hf : cells + mc ≤ R.cells ∧ slots + ms ≤ R.slots) :
    va_Run p l e R s m args below meth c H locs cells slots mc ms g rest (Qc As.toArray) (free) := by
  obtain ⟨⟨hrc, hrs, hfr, hlo, hws, hcw⟩, hcode, hini, hy, hlen, hl, hstt⟩ := cw
  have hK : Back l R p e below s args y 3 8 (PreOf R mc ms Pc) (PostOf Qc mc ms free) := va_backW (hh := hh) (bytes := bytes) (maxL := maxL) (ret := ret) hM hp.1 hrc hrs hfr hlo hws hcw (fun a' U hW => word_at hW (Or.inl (by first | rfl | simp [Cond.onTables, Cond.keeps, Cond.steady])) hini)
  obtain ⟨hx, hb, hml, ho, -⟩ := S
  intro T hT X
  obtain ⟨v, vm₁, ⟨U', l2, c2, s2⟩, hW₁, X', ⟨g', mk, t, L, e1, e2, hq, h1, hL, h2, h3⟩, st⟩ := vx_callSW X hx (hh := hh) (bytes := bytes) (maxL := maxL) (ret := ret) ho hl hstt hini hcode hy hK hg (hsize.trans hml.symm) (argsL := As) (rest := rest) (fun sig h => hn.trans (hlen sig h)) hstack hW (by rw [hb]; exact hdg)
    (fun vm₁ hW₁ => ⟨hf.1, hf.2, hp.2 (T.setVm vm₁) hT hW₁⟩)
  dsimp only [Pt.U, Pt.locs, Pt.cells, Pt.slots] at X' e1 e2 h1 h2 h3 st
  subst h1; subst h2; subst h3
  exact ⟨v, (T.setVm vm₁).calling g' mk As.toArray, t, U', L, hT, X', hL, e1, e2, hq, st⟩
/-- not caught here, past rows that name other classes: it goes on to the caller -/
theorem vx_outP {p : Program} {l : Launch} {e : Env} {R : Room} {s : State} {m : MethodId} {args : Array Value} {below : List Frame} {meth : Method} {c : Code} {H : Heap} {locs : List Loc} {cells slots : Nat} {free : Addr → Prop} {ls : Array Slot} {rest : List Value} {Qc : Array Value → State → Outcome → State → Prop} {XC : String → State → State → Prop}
    {pc : Nat} {own E : String} {ce : Cell} {q : Addr} {mc ms : Nat} (hown : s.vm.findClass own = some m.cls) (hlocks : meth.locks = false)
    (hpass : ∀ z ∈ c.exceptionTable.toList, covers z pc = false ∨ (z.catchType ≠ 0 ∧ ∃ nm : String, (Cond.classLink own z.catchType nm).before args s = true ∧ va_Nc E nm s)) (hcell : H[q]? = some ce) (hv : ce.vm = .none) (hcl : s.vm.findClass E = some ce.cls)
    (hx : ∀ t : State, t.heap = H → s.vm.Alike t.vm → XC E s t) (hf : ∀ z ∈ locs, free z.base) (hc : cells ≤ mc) (hs : slots ≤ ms) :
    vx_W p l e R s m args below meth c H locs cells slots (vx_MQ below Qc XC args s mc ms free) (F0 m pc ls rest) q := by
  intro T hT X
  have hpl : e.platform.magicAccessors = ({} : Platform).magicAccessors := by rw [X.admits.platform]
  obtain ⟨vm', hW', X', st⟩ := X.outThrough hlocks q (g := F0 m pc ls rest) rfl rfl rfl (cell := ce) (by rw [hT]; exact hcell) (by rw [hv]; rfl)
    (by obtain ⟨k9, h9, -⟩ := Vm.findClass_spec hcl; exact ⟨k9, h9⟩) (fun z hz => by
      rcases hpass z hz with h | ⟨hz0, nm, hl1, hn1⟩
      · exact Or.inl h
      · obtain ⟨c6, hc6, hcl6⟩ := Cond.classLink_spec hown hl1 e.platform hpl
        obtain ⟨a8, b8, h1, h2, h3⟩ := hn1
        cases Option.some.inj (h1.symm.trans hcl)
        cases Option.some.inj (h2.symm.trans hc6)
        exact Or.inr ⟨hz0, _, hcl6, h3⟩)
  obtain ⟨g₀, hfr⟩ := X'.frames_eq
  have hcell9 : ((T.setVm vm').setFrames (.throwing q :: below)).heap[q]? = some ce := by
    show T.heap[q]? = some ce
    rw [hT]; exact hcell
  have hend : Ended ((T.setVm vm').setFrames (.throwing q :: below)) below (.threw q) := State.frames_setFrames _ (State.cur_lt_of_frames hfr)
  refine ⟨(T.setVm vm').setFrames (.throwing q :: below), ?_, .threw q, X'.here.running, hend, Or.inr ⟨q, rfl, E, ce, locs, hx _ hT (X'.ends _).1.alike, hcell9, hv, hcl, (X'.ends _).1, (X'.ends _).2.mono hc hs, hf⟩⟩
  rw [X.pushThrowing_eq]
  exact st
/-- a thing of a world lies in the heap -/
theorem vx_lt {D : va_G} {cl : List vw_C} {ws : va_W} {H1 : Heap} (h : va_P D cl ws H1) {k : Nat} {q : Nat × va_E} (hk : ws[k]? = some q) : q.1 < H1.size := (h k q hk).lt
end VXS
/-! ===== END ===== -/
/-! ===== BEGIN methods with a table of their own: called by a name, returning or throwing ===== -/
section VXH
/-! vx_backW, vx_callVX, vx_callSX, vx_callVW, vx_runVW, vx_runVX, vx_runSX, vx_ofWH follow the same proofs as their sisters above (Free/Laws.lean, Shelf42/LK1.lean); vx_outP calls Shelf42/NT130.lean (outThrough). -/
section
variable {l : Launch} {R : Room} {p : Program} {e : Env} {below : List Frame} {s : State} {sargs : Array Value} {y : MethodName} {len W9 : Nat}
theorem vx_backW {ws : List Cond} {rm : Room} {Pc : Array Value → State → Prop} {Qc : Array Value → State → Outcome → State → Prop} {XC : String → State → State → Prop} {mc ms : Nat} {free : Addr → Prop} {bytes : ByteArray} {maxL : Nat} {ret : Option FieldType} {hh : List (Nat × Nat × Nat × Nat)}
    (hM : vx_Met l y ws rm Pc Qc XC mc ms free) (hblind : FrameBlind Pc) (hrc : rm.cells = mc) (hrs : rm.slots = ms)
    (hframes : rm.frames + 1 ≤ R.frames) (hlocals : W9 + (maxL + 11) + rm.locals ≤ R.locals)
    (hws : ∀ w ∈ ws, ∀ a' U, s.WarmedH U.vm → w.before a' U = true) (hcode : Cond.codeWith y bytes maxL ret hh ∈ ws) (hinit : ∀ a' U, s.WarmedH U.vm → (Cond.initialized y.cls).before a' U = true) :
    vx_Back l R p e below s sargs y len W9 (PreOf R mc ms Pc) (PostOf Qc mc ms free) (vx_Post XC mc ms free) := by
  intro m meth c A g ig mk a X hg hsize hdg hW hn hp
  have h1 : (headSpec ws rm).pre.before a A.U = true := atoms_intro fun w hw => hws w hw _ _ X.warmed
  have h2 : (Cond.codeWith y bytes maxL ret hh).before a A.U = true := hws _ hcode _ _ X.warmed
  have h3 : (Cond.initialized y.cls).before a A.U = true := hinit _ _ X.warmed
  have h4 : A.cells + (headSpec ws rm).room.cells ≤ R.cells := by rw [show (headSpec ws rm).room.cells = mc from hrc]; exact hp.1
  have h5 : A.slots + (headSpec ws rm).room.slots ≤ R.slots := by rw [show (headSpec ws rm).room.slots = ms from hrs]; exact hp.2.1
  have hPc : Pc a (A.U.calling g mk a) := hblind _ _ _ _ hp.2.2
  obtain ⟨U, Ls, c0, s0⟩ := A
  dsimp only [Pt.U, Pt.locs, Pt.cells, Pt.slots] at h1 h2 h3 h4 h5 X hn hPc ⊢
  obtain ⟨m9, methY, cY, hn9, hmY, hcY, -, hlY, -⟩ := Cond.codeWith_spec h2
  cases Option.some.inj (hn9.symm.trans hn)
  obtain ⟨kY, hkY, -⟩ := className_of_methodNamed hn
  have hinitY : kY.init = .initialized := Cond.initialized_spec (findClass_of_methodNamed hn) hkY h3
  have h : At U g.method c below := by rw [hg]; exact X.here
  have hlocals9 : W9 + (maxL + 11) + (headSpec ws rm).room.locals ≤ R.locals := hlocals
  have happ : (headSpec ws rm).appliesLoose y e.platform (U.calling g mk a) = true :=
    Spec.appliesLoose_calling (g := g) h hdg hn hkY hinitY
      (X.room_calling (g := g) (R' := (headSpec ws rm).room) hsize hmY hcY hframes (by rw [hlY]; omega) h4 h5) h1
  obtain ⟨mid, hmid⟩ := h.above
  have hfr : (U.setTop g).frames = (.java g :: mid) ++ below := by rw [State.frames_setTop' g h.top, hmid]; rfl
  obtain ⟨o, s₂, hsteps, -, hend, hq⟩ := Steps.callFree hM p X.admits X.cas X.clock (acts := []) hfr happ hPc trivial
  have hq' : vx_Q Qc XC mc ms free a (U.calling g mk a) o s₂ := hq
  rw [State.frames_setTop' g h.top] at hend
  obtain ⟨g₀, hg0⟩ := Option.isSome_iff_exists.mp h.top
  obtain ⟨r, hr⟩ := State.topJava?_eq_some.mp hg0
  have hr' : (({ U with heap := s₂.heap, slotsUsed := s₂.slotsUsed } : State).setVm s₂.vm).frames = .java g₀ :: r := hr
  rcases hq' with ⟨hqc, L, hfe, hL⟩ | ⟨q, rfl, E, ce, L, hx, hce, hcv, hcl, hW₂, hsm, hL⟩
  · obtain ⟨⟨v, rfl⟩, hW₂, e2, q2, q3, q4, q5, q6⟩ := id hfe
    have e3 : s₂ = ({ (U.calling g mk a).setFrames s₂.frames with heap := s₂.heap, slotsUsed := s₂.slotsUsed } : State).setVm s₂.vm := by
      have : s₂ = ({ s₂ with vm := (U.calling g mk a).vm } : State).setVm s₂.vm := rfl
      rw [e2] at this
      exact this
    obtain ⟨c₂, i₂, len₂, hc₂, hd₂, hf₂⟩ := hend
    have hW' : U.WarmedH s₂.vm := hW₂
    have hcc : c₂ = c := by
      have h1 : s₂.code? g.method = U.code? g.method := by
        rw [State.code?_eq, State.code?_eq, hW'.alike.method?]
      exact Option.some.inj (hc₂.symm.trans (h1.trans h.code))
    subst hcc
    have hlen : len₂ = len := by rw [hdg] at hd₂; cases hd₂; rfl
    subst hlen
    have hs₂ : s₂ = (({ U with heap := s₂.heap, slotsUsed := s₂.slotsUsed } : State).setVm s₂.vm).setTop { g with pc := g.pc + len₂, stack := v.toList ++ g.stack } := by
      refine e3.trans ?_
      rw [hf₂, State.calling_eq h.top, State.setFrames_setFrames, State.setTop_of_frames _ hr', hr]
      rfl
    have hsame : U.sameButNew ({ U with heap := s₂.heap, slotsUsed := s₂.slotsUsed } : State) L mc ms := by
      refine ⟨?_, q2, q3, q4, q5, q6⟩
      obtain ⟨t, ht, -⟩ := State.frames_cons hr
      show ({ U with heap := s₂.heap, slotsUsed := s₂.slotsUsed } : State) = { U.setFrames U.frames with heap := s₂.heap, slotsUsed := s₂.slotsUsed }
      rw [State.setFrames_self ht]
    subst hg
    refine Or.inl ⟨v, ⟨(({ U with heap := s₂.heap, slotsUsed := s₂.slotsUsed } : State).setVm s₂.vm), Ls ++ L, c0 + mc, s0 + ms⟩,
      ⟨X.admits, X.cas, X.clock, X.frames, X.room, X.hears, X.method, X.code, (X.here.setHeapUsed s₂.heap s₂.slotsUsed).setVm hW'.alike, X.tail, State.WarmedH.trans X.warmed hW', X.limits, X.bytes, X.same.trans (hsame.setVm s.vm)⟩,
      ⟨g, mk, s₂, L, rfl, rfl, hqc, rfl, hL, rfl, rfl⟩, ?_⟩
    show Steps p.tables e below _ ((({ U with heap := s₂.heap, slotsUsed := s₂.slotsUsed } : State).setVm s₂.vm).setTop { g with pc := g.pc + len₂, stack := v.toList ++ g.stack })
    rw [← hs₂]
    exact hsteps
  · obtain ⟨e2, q2, q3, q4, q5, q6⟩ := id hsm
    have e3 : s₂ = ({ (U.calling g mk a).setFrames s₂.frames with heap := s₂.heap, slotsUsed := s₂.slotsUsed } : State).setVm s₂.vm := by
      have : s₂ = ({ s₂ with vm := (U.calling g mk a).vm } : State).setVm s₂.vm := rfl
      rw [e2] at this
      exact this
    have hf₂ : s₂.frames = .throwing q :: .java g :: U.frames.tail := hend
    have hW' : U.WarmedH s₂.vm := hW₂
    have hs₂ : s₂ = ((({ U with heap := s₂.heap, slotsUsed := s₂.slotsUsed } : State).setVm s₂.vm).setTop g).pushFrame (.throwing q) := by
      refine e3.trans ?_
      rw [hf₂, State.calling_eq h.top, State.setFrames_setFrames, State.pushFrame, State.frames_setTop _ hr', State.setTop_of_frames _ hr', State.setFrames_setFrames, hr]
      rfl
    have hsame : U.sameButNew ({ U with heap := s₂.heap, slotsUsed := s₂.slotsUsed } : State) L mc ms := by
      refine ⟨?_, q2, q3, q4, q5, q6⟩
      obtain ⟨t, ht, -⟩ := State.frames_cons hr
      show ({ U with heap := s₂.heap, slotsUsed := s₂.slotsUsed } : State) = { U.setFrames U.frames with heap := s₂.heap, slotsUsed := s₂.slotsUsed }
      rw [State.setFrames_self ht]
    subst hg
    refine Or.inr ⟨q, ⟨(({ U with heap := s₂.heap, slotsUsed := s₂.slotsUsed } : State).setVm s₂.vm), Ls ++ L, c0 + mc, s0 + ms⟩,
      ⟨X.admits, X.cas, X.clock, X.frames, X.room, X.hears, X.method, X.code, (X.here.setHeapUsed s₂.heap s₂.slotsUsed).setVm hW'.alike, X.tail, State.WarmedH.trans X.warmed hW', X.limits, X.bytes, X.same.trans (hsame.setVm s.vm)⟩,
      ⟨g, mk, s₂, L, E, ce, rfl, rfl, hx, hce, hcv, hcl, rfl, hL, rfl, rfl⟩, ?_⟩
    show Steps p.tables e below _ (((({ U with heap := s₂.heap, slotsUsed := s₂.slotsUsed } : State).setVm s₂.vm).setTop g).pushFrame (.throwing q))
    rw [← hs₂]
    exact hsteps
end
variable {p : Program} {l : Launch} {e : Env} {R : Room} {s : State} {m : MethodId} {args : Array Value} {below : List Frame} {meth : Method} {c : Code} {T : State} {H : Heap} {locs : List Loc} {cells slots : Nat}
theorem vx_callVX (X : Stand p l e R s m args below meth c T locs cells slots) (hexec : p.tables.exec = Jvm.exec) {own C : String} {index : Nat} {y : MethodName} {bytes : ByteArray} {maxL : Nat} {ret : Option FieldType} {hh : List (Nat × Nat × Nat × Nat)}
    (hown : s.vm.findClass own = some m.cls) (hlink : (Cond.methodLink own index y).before args s = true) (hinst : (Cond.instanceMethod y).before args s = true) (hsel : (Cond.selects C y y).before args s = true)
    (hcode : (Cond.codeWith y bytes maxL ret hh).before args s = true) (hy : y.cls ≠ "java/lang/invoke/MethodHandle" ∧ y.cls ≠ "java/lang/invoke/VarHandle")
    {W9 : Nat} {Pre : Pt → Array Value → Prop} {Post : Pt → Array Value → Option Value → Pt → Prop} {PostX : Pt → Array Value → Addr → Pt → Prop} (hK : vx_Back l R p e below s args y 3 W9 Pre Post PostX)
    {b : Addr} {cellB : Cell} (hcell : T.heap[b]? = some cellB) (hobj : cellB.vm.isStatics = false) (hcls : s.vm.findClass C = some cellB.cls)
    {g : JFrame} (hg : g.method = m) (hsize : g.locals.size = c.maxLocals) {argsL rest : List Value} (hlen : ∀ sig, parseMethodDescriptor y.desc = some sig → argsL.length = sig.parameters.length)
    (hstack : g.stack = argsL.reverse ++ .ref b :: rest) (hW : 2 * g.monitorRoom + (rest.map fun v => v.category).sum ≤ W9) (hdg : decode c.code g.pc = .ok (.invokevirtual index, 3))
    (hpre : ∀ vm₁, s.WarmedH vm₁ → Pre ⟨T.setVm vm₁, locs, cells, slots⟩ (Value.ref b :: argsL).toArray) :
    (∃ (v : Option Value) (vm₁ : Vm) (B : Pt), s.WarmedH vm₁ ∧ Stand p l e R s m args below meth c B.U B.locs B.cells B.slots ∧ Post ⟨T.setVm vm₁, locs, cells, slots⟩ (Value.ref b :: argsL).toArray v B ∧
      ∀ target, Steps p.tables e below (B.U.setTop { g with pc := g.pc + 3, stack := v.toList ++ rest }) target → Steps p.tables e below (T.setTop g) target) ∨
    (∃ (q : Addr) (vm₁ : Vm) (B : Pt), s.WarmedH vm₁ ∧ Stand p l e R s m args below meth c B.U B.locs B.cells B.slots ∧ PostX ⟨T.setVm vm₁, locs, cells, slots⟩ (Value.ref b :: argsL).toArray q B ∧
      Steps p.tables e below (T.setTop g) ((B.U.setTop { g with stack := rest }).pushFrame (.throwing q))) := by
  obtain ⟨mk, methM, hnamed, hmethM, hstM, habM⟩ := Cond.instanceMethod_spec hinst
  obtain ⟨m8, methM', cM, hn8, hmethM', -, -, -, -, -, -, hsigM⟩ := Cond.codeWith_spec hcode
  cases Option.some.inj (hn8.symm.trans hnamed)
  cases hmethM.symm.trans hmethM'
  obtain ⟨c2, r2, m2, q1, q2, q3, q4, kP, hkP, hkPi⟩ := Cond.selects_spec hsel
  cases hcls.symm.trans q1
  cases (State.methodFound?_of_named hnamed hy).symm.trans q2
  cases hnamed.symm.trans q3
  have hselP : selectMethod e.platform s.vm cellB.cls mk = .method mk := by rw [Launch.admits_selectMethod X.admits]; exact q4
  obtain ⟨vm₁, X₁, hstep₁⟩ := X.invokevirtual hexec hown hlink hnamed hmethM hstM hkP hkPi hy (a := b) (cell := cellB) hcell
    (fun z h => by rw [h] at hobj; cases hobj) hselP hmethM habM hkP hkPi (g := g) hg (argsL := argsL) (rest := rest) (hlen _ hsigM) hstack hdg
  rcases hK m meth c ⟨T.setVm vm₁, locs, cells, slots⟩ { g with stack := rest } (.invokevirtual index) mk (Value.ref b :: argsL).toArray X₁ hg hsize hdg hW (X₁.named hnamed) (hpre vm₁ X₁.warmed) with ⟨v, B, X', hpost, hsteps⟩ | ⟨q, B, X', hpost, hsteps⟩
  · exact Or.inl ⟨v, vm₁, B, X₁.warmed, X', hpost, fun target h => hstep₁ _ fun acts => by rw [doInvoke_state]; exact hsteps.trans h⟩
  · exact Or.inr ⟨q, vm₁, B, X₁.warmed, X', hpost, hstep₁ _ fun acts => by rw [doInvoke_state]; exact hsteps⟩
theorem vx_callSX (X : Stand p l e R s m args below meth c T locs cells slots) (hexec : p.tables.exec = Jvm.exec) {own : String} {index : Nat} {y : MethodName} {bytes : ByteArray} {maxL : Nat} {ret : Option FieldType} {hh : List (Nat × Nat × Nat × Nat)}
    (hown : s.vm.findClass own = some m.cls) (hlink : (Cond.methodLink own index y).before args s = true) (hstat : (Cond.static y).before args s = true) (hinit : (Cond.initialized y.cls).before args s = true)
    (hcode : (Cond.codeWith y bytes maxL ret hh).before args s = true) (hy : y.cls ≠ "java/lang/invoke/MethodHandle" ∧ y.cls ≠ "java/lang/invoke/VarHandle")
    {W9 : Nat} {Pre : Pt → Array Value → Prop} {Post : Pt → Array Value → Option Value → Pt → Prop} {PostX : Pt → Array Value → Addr → Pt → Prop} (hK : vx_Back l R p e below s args y 3 W9 Pre Post PostX)
    {g : JFrame} (hg : g.method = m) (hsize : g.locals.size = c.maxLocals) {argsL rest : List Value} (hlen : ∀ sig, parseMethodDescriptor y.desc = some sig → argsL.length = sig.parameters.length)
    (hstack : g.stack = argsL.reverse ++ rest) (hW : 2 * g.monitorRoom + (rest.map fun v => v.category).sum ≤ W9) (hdg : decode c.code g.pc = .ok (.invokestatic index, 3))
    (hpre : ∀ vm₁, s.WarmedH vm₁ → Pre ⟨T.setVm vm₁, locs, cells, slots⟩ argsL.toArray) :
    (∃ (v : Option Value) (vm₁ : Vm) (B : Pt), s.WarmedH vm₁ ∧ Stand p l e R s m args below meth c B.U B.locs B.cells B.slots ∧ Post ⟨T.setVm vm₁, locs, cells, slots⟩ argsL.toArray v B ∧
      ∀ target, Steps p.tables e below (B.U.setTop { g with pc := g.pc + 3, stack := v.toList ++ rest }) target → Steps p.tables e below (T.setTop g) target) ∨
    (∃ (q : Addr) (vm₁ : Vm) (B : Pt), s.WarmedH vm₁ ∧ Stand p l e R s m args below meth c B.U B.locs B.cells B.slots ∧ PostX ⟨T.setVm vm₁, locs, cells, slots⟩ argsL.toArray q B ∧
      Steps p.tables e below (T.setTop g) ((B.U.setTop { g with stack := rest }).pushFrame (.throwing q))) := by
  obtain ⟨mk, methM, cM, hnamed, hmethM, -, -, -, -, -, -, hsigM⟩ := Cond.codeWith_spec hcode
  have hstatic : methM.isStatic = true := Cond.static_spec hnamed hmethM hstat
  obtain ⟨kP, hkP, -⟩ := className_of_methodNamed hnamed
  have hinitP : kP.init = .initialized := Cond.initialized_spec (findClass_of_methodNamed hnamed) hkP hinit
  obtain ⟨vm₁, X₁, hstep₁⟩ := X.invokestatic hexec hown hlink hnamed hmethM hstatic hkP hinitP hy (g := g) hg (argsL := argsL) (rest := rest) (hlen _ hsigM) hstack hdg
  rcases hK m meth c ⟨T.setVm vm₁, locs, cells, slots⟩ { g with stack := rest } (.invokestatic index) mk argsL.toArray X₁ hg hsize hdg hW (X₁.named hnamed) (hpre vm₁ X₁.warmed) with ⟨v, B, X', hpost, hsteps⟩ | ⟨q, B, X', hpost, hsteps⟩
  · exact Or.inl ⟨v, vm₁, B, X₁.warmed, X', hpost, fun target h => hstep₁ _ fun acts => by rw [doInvoke_state]; exact hsteps.trans h⟩
  · exact Or.inr ⟨q, vm₁, B, X₁.warmed, X', hpost, hstep₁ _ fun acts => by rw [doInvoke_state]; exact hsteps⟩
theorem vx_callVW (X : Stand p l e R s m args below meth c T locs cells slots) (hexec : p.tables.exec = Jvm.exec) {own C : String} {index : Nat} {y : MethodName} {bytes : ByteArray} {maxL : Nat} {ret : Option FieldType} {hh : List (Nat × Nat × Nat × Nat)}
    (hown : s.vm.findClass own = some m.cls) (hlink : (Cond.methodLink own index y).before args s = true) (hinst : (Cond.instanceMethod y).before args s = true) (hsel : (Cond.selects C y y).before args s = true)
    (hcode : (Cond.codeWith y bytes maxL ret hh).before args s = true) (hy : y.cls ≠ "java/lang/invoke/MethodHandle" ∧ y.cls ≠ "java/lang/invoke/VarHandle")
    {W9 : Nat} {Pre : Pt → Array Value → Prop} {Post : Pt → Array Value → Option Value → Pt → Prop} (hK : Back l R p e below s args y 3 W9 Pre Post)
    {b : Addr} {cellB : Cell} (hcell : T.heap[b]? = some cellB) (hobj : cellB.vm.isStatics = false) (hcls : s.vm.findClass C = some cellB.cls)
    {g : JFrame} (hg : g.method = m) (hsize : g.locals.size = c.maxLocals) {argsL rest : List Value} (hlen : ∀ sig, parseMethodDescriptor y.desc = some sig → argsL.length = sig.parameters.length)
    (hstack : g.stack = argsL.reverse ++ .ref b :: rest) (hW : 2 * g.monitorRoom + (rest.map fun v => v.category).sum ≤ W9) (hdg : decode c.code g.pc = .ok (.invokevirtual index, 3))
    (hpre : ∀ vm₁, s.WarmedH vm₁ → Pre ⟨T.setVm vm₁, locs, cells, slots⟩ (Value.ref b :: argsL).toArray) :
    ∃ (v : Option Value) (vm₁ : Vm) (B : Pt), s.WarmedH vm₁ ∧ Stand p l e R s m args below meth c B.U B.locs B.cells B.slots ∧ Post ⟨T.setVm vm₁, locs, cells, slots⟩ (Value.ref b :: argsL).toArray v B ∧
      ∀ target, Steps p.tables e below (B.U.setTop { g with pc := g.pc + 3, stack := v.toList ++ rest }) target → Steps p.tables e below (T.setTop g) target := by
  obtain ⟨mk, methM, hnamed, hmethM, hstM, habM⟩ := Cond.instanceMethod_spec hinst
  obtain ⟨m8, methM', cM, hn8, hmethM', -, -, -, -, -, -, hsigM⟩ := Cond.codeWith_spec hcode
  cases Option.some.inj (hn8.symm.trans hnamed)
  cases hmethM.symm.trans hmethM'
  obtain ⟨c2, r2, m2, q1, q2, q3, q4, kP, hkP, hkPi⟩ := Cond.selects_spec hsel
  cases hcls.symm.trans q1
  cases (State.methodFound?_of_named hnamed hy).symm.trans q2
  cases hnamed.symm.trans q3
  have hselP : selectMethod e.platform s.vm cellB.cls mk = .method mk := by rw [Launch.admits_selectMethod X.admits]; exact q4
  obtain ⟨vm₁, X₁, hstep₁⟩ := X.invokevirtual hexec hown hlink hnamed hmethM hstM hkP hkPi hy (a := b) (cell := cellB) hcell
    (fun z h => by rw [h] at hobj; cases hobj) hselP hmethM habM hkP hkPi (g := g) hg (argsL := argsL) (rest := rest) (hlen _ hsigM) hstack hdg
  obtain ⟨v, B, X', hpost, hsteps⟩ := hK m meth c ⟨T.setVm vm₁, locs, cells, slots⟩ { g with stack := rest } (.invokevirtual index) mk (Value.ref b :: argsL).toArray X₁ hg hsize hdg hW (X₁.named hnamed) (hpre vm₁ X₁.warmed)
  exact ⟨v, vm₁, B, X₁.warmed, X', hpost, fun target h => hstep₁ _ fun acts => by rw [doInvoke_state]; exact hsteps.trans h⟩
abbrev vx_CVW (R : Room) (s : State) (args : Array Value) (own C : String) (index : Nat) (y : MethodName) (bytes : ByteArray) (maxL : Nat) (ret : Option FieldType) (hh : List (Nat × Nat × Nat × Nat)) (ws : List Cond) (rm : Room) (mc ms n : Nat) : Prop :=
  (rm.cells = mc ∧ rm.slots = ms ∧ rm.frames + 1 ≤ R.frames ∧ 8 + (maxL + 11) + rm.locals ≤ R.locals ∧ (∀ w ∈ ws, ∀ (a' : Array Value) (U : State), s.WarmedH U.vm → w.before a' U = true) ∧ Cond.codeWith y bytes maxL ret hh ∈ ws) ∧
  (Cond.codeWith y bytes maxL ret hh).before args s = true ∧ (Cond.initialized y.cls).before args s = true ∧ (y.cls ≠ "java/lang/invoke/MethodHandle" ∧ y.cls ≠ "java/lang/invoke/VarHandle") ∧
  (∀ sig, parseMethodDescriptor y.desc = some sig → n = sig.parameters.length) ∧ (Cond.methodLink own index y).before args s = true ∧ (Cond.instanceMethod y).before args s = true ∧ (Cond.selects C y y).before args s = true
theorem vx_cwVW {own C : String} {index maxL mc ms : Nat} {y : MethodName} {bytes : ByteArray} {ret : Option FieldType} {hh : List (Nat × Nat × Nat × Nat)} {Ts ws ws' : List Cond} {rm : Room} (n : Nat) (ht : ∀ w ∈ Ts, w.before args s = true) (hT : GoodIn Ts (wsV own index C y ws)) (hw : ws = Cond.codeWith y bytes maxL ret hh :: ws') (hrc : rm.cells = mc) (hrs : rm.slots = ms)
    (hd : y.cls = C ∧ y.cls ≠ "java/lang/invoke/MethodHandle" ∧ y.cls ≠ "java/lang/invoke/VarHandle" ∧ (parseMethodDescriptor y.desc).map (fun d => d.parameters.length) = some n) (hR : rm.frames + 1 ≤ R.frames ∧ 8 + (maxL + 11) + rm.locals ≤ R.locals) :
    vx_CVW R s args own C index y bytes maxL ret hh ws rm mc ms n := by
  obtain ⟨hC, hd⟩ := hd
  subst hC
  have ok : ∀ w ∈ wsV own index y.cls y ws, w.before args s = true := fun w h => ht w (hT w h).1
  have hG : GoodIn Ts ws := fun w h => hT w (by unfold wsV; exact List.mem_append_right _ h)
  have hc : Cond.codeWith y bytes maxL ret hh ∈ ws := by rw [hw]; exact List.mem_cons_self
  refine ⟨⟨hrc, hrs, hR.1, hR.2, pay_in ht hG, hc⟩, ht _ (hG _ hc).1, ok _ (by simp [wsV]), ⟨hd.1, hd.2.1⟩, fun sig h => ?_, ok _ (by simp [wsV]), ok _ (by simp [wsV]), ok _ (by simp [wsV])⟩
  have h2 := hd.2.2
  rw [h] at h2
  exact (Option.some.inj h2).symm
theorem vx_runVW {y : MethodName} {bytes cc : ByteArray} {maxL nL mc ms n index : Nat} {ret : Option FieldType} {hh : List (Nat × Nat × Nat × Nat)} {ws : List Cond} {rm : Room} {Pc : Array Value → State → Prop} {Qc : Array Value → State → Outcome → State → Prop} {free : Addr → Prop} {Ts : List Cond} {own C : String} {b : Addr} {As rest : List Value} {g : JFrame}
    (S : CallFix p m c cc nL s args Ts own) (hM : Met l y ws rm Pc Qc mc ms free) (cw : vx_CVW R s args own C index y bytes maxL ret hh ws rm mc ms n) (hp : PreV s H C b Pc As)
    (hg : g.method = m) (hn : As.length = n) (hsize : g.locals.size = nL) (hstack : g.stack = As.reverse ++ .ref b :: rest) (hW : 2 * g.monitorRoom + (rest.map fun v => v.category).sum ≤ 8) (hdg : decode cc g.pc = .ok (.invokevirtual index, 3)) (hf : cells + mc ≤ R.cells ∧ slots + ms ≤ R.slots) :
    va_Run p l e R s m args below meth c H locs cells slots mc ms g rest (Qc (Value.ref b :: As).toArray) free := by
  obtain ⟨⟨hrc, hrs, hfr, hlo, hws, hcw⟩, hcode, hini, hy, hlen, hl, hin, hse⟩ := cw
  have hK : Back l R p e below s args y 3 8 (PreOf R mc ms Pc) (PostOf Qc mc ms free) := va_backW (hh := hh) (bytes := bytes) (maxL := maxL) (ret := ret) hM hp.1 hrc hrs hfr hlo hws hcw (fun a' U hW => word_at hW (Or.inl (by first | rfl | simp [Cond.onTables, Cond.keeps, Cond.steady])) hini)
  obtain ⟨hx, hb, hml, ho, -⟩ := S
  obtain ⟨-, ⟨cellB, hcB, hoB, hclB⟩, hPc⟩ := hp
  intro T hT X
  obtain ⟨v, vm₁, ⟨U', l2, c2, s2⟩, hW₁, X', ⟨g', mk, t, L, e1, e2, hq, h1, hL, h2, h3⟩, st⟩ := vx_callVW X hx (C := C) (hh := hh) (bytes := bytes) (maxL := maxL) (ret := ret) ho hl hin hse hcode hy hK (by rw [hT]; exact hcB) hoB hclB hg (hsize.trans hml.symm) (argsL := As) (rest := rest) (fun sig h => hn.trans (hlen sig h)) hstack hW (by rw [hb]; exact hdg)
    (fun vm₁ hW₁ => ⟨hf.1, hf.2, hPc (T.setVm vm₁) hT hW₁⟩)
  dsimp only [Pt.U, Pt.locs, Pt.cells, Pt.slots] at X' e1 e2 h1 h2 h3 st
  subst h1; subst h2; subst h3
  exact ⟨v, (T.setVm vm₁).calling g' mk (Value.ref b :: As).toArray, t, U', L, hT, X', hL, e1, e2, hq, st⟩
section
variable {y : MethodName} {bytes cc : ByteArray} {maxL nL mc ms n index : Nat} {ret : Option FieldType} {ws : List Cond} {rm : Room} {Pc : Array Value → State → Prop} {Qc : Array Value → State → Outcome → State → Prop} {XC : String → State → State → Prop} {free : Addr → Prop} {Ts : List Cond} {own C : String} {b : Addr} {As rest : List Value} {g : JFrame}
theorem vx_runVX {hh : List (Nat × Nat × Nat × Nat)} (S : CallFix p m c cc nL s args Ts own) (hM : vx_Met l y ws rm Pc Qc XC mc ms free) (cw : vx_CVW R s args own C index y bytes maxL ret hh ws rm mc ms n) (hp : PreV s H C b Pc As)
    (hg : g.method = m) (hn : As.length = n) (hsize : g.locals.size = nL) (hstack : g.stack = As.reverse ++ .ref b :: rest) (hW : 2 * g.monitorRoom + (rest.map fun v => v.category).sum ≤ 8) (hdg : decode cc g.pc = .ok (.invokevirtual index, 3)) (hf : cells + mc ≤ R.cells ∧ slots + ms ≤ R.slots) :
    vx_Run p l e R s m args below meth c H locs cells slots mc ms g rest (Qc (Value.ref b :: As).toArray) XC free := by
  obtain ⟨⟨hrc, hrs, hfr, hlo, hws, hcw⟩, hcode, hini, hy, hlen, hl, hin, hse⟩ := cw
  have hK : vx_Back l R p e below s args y 3 8 (PreOf R mc ms Pc) (PostOf Qc mc ms free) (vx_Post XC mc ms free) := vx_backW (hh := hh) (bytes := bytes) (maxL := maxL) (ret := ret) hM hp.1 hrc hrs hfr hlo hws hcw (fun a' U hW => word_at hW (Or.inl (by first | rfl | simp [Cond.onTables, Cond.keeps, Cond.steady])) hini)
  obtain ⟨hx, hb, hml, ho, -⟩ := S
  obtain ⟨-, ⟨cellB, hcB, hoB, hclB⟩, hPc⟩ := hp
  intro T hT X
  rcases vx_callVX X hx (C := C) (hh := hh) (bytes := bytes) (maxL := maxL) (ret := ret) ho hl hin hse hcode hy hK (by rw [hT]; exact hcB) hoB hclB hg (hsize.trans hml.symm) (argsL := As) (rest := rest) (fun sig h => hn.trans (hlen sig h)) hstack hW (by rw [hb]; exact hdg)
    (fun vm₁ hW₁ => ⟨hf.1, hf.2, hPc (T.setVm vm₁) hT hW₁⟩) with ⟨v, vm₁, ⟨U', l2, c2, s2⟩, hW₁, X', ⟨g', mk, t, L, e1, e2, hq, h1, hL, h2, h3⟩, st⟩ | ⟨q, vm₁, ⟨U', l2, c2, s2⟩, hW₁, X', ⟨g', mk, t, L, E, ce, e1, e2, hq, hce, hcv, hcl, h1, hL, h2, h3⟩, st⟩
  · dsimp only [Pt.U, Pt.locs, Pt.cells, Pt.slots] at X' e1 e2 h1 h2 h3 st
    subst h1; subst h2; subst h3
    exact Or.inl ⟨v, (T.setVm vm₁).calling g' mk (Value.ref b :: As).toArray, t, U', L, hT, X', hL, e1, e2, hq, st⟩
  · dsimp only [Pt.U, Pt.locs, Pt.cells, Pt.slots] at X' e1 e2 h1 h2 h3 st hcl
    subst h1; subst h2; subst h3
    exact Or.inr ⟨q, (T.setVm vm₁).calling g' mk (Value.ref b :: As).toArray, t, U', L, E, ce, hT, X', hL, e1, e2, hq, hce, hcv, vx_cls hW₁ hcl, st⟩
theorem vx_runSX {hh : List (Nat × Nat × Nat × Nat)} (S : CallFix p m c cc nL s args Ts own) (hM : vx_Met l y ws rm Pc Qc XC mc ms free) (cw : vx_CSW R s args own index y bytes maxL ret hh ws rm mc ms n) (hp : PreS s H Pc As)
    (hg : g.method = m) (hn : As.length = n) (hsize : g.locals.size = nL) (hstack : g.stack = As.reverse ++ rest) (hW : 2 * g.monitorRoom + (rest.map fun v => v.category).sum ≤ 8) (hdg : decode cc g.pc = .ok (.invokestatic index, 3)) (hf : cells + mc ≤ R.cells ∧ slots + ms ≤ R.slots) :
    vx_Run p l e R s m args below meth c H locs cells slots mc ms g rest (Qc As.toArray) XC free := by
  obtain ⟨⟨hrc, hrs, hfr, hlo, hws, hcw⟩, hcode, hini, hy, hlen, hl, hstt⟩ := cw
  have hK : vx_Back l R p e below s args y 3 8 (PreOf R mc ms Pc) (PostOf Qc mc ms free) (vx_Post XC mc ms free) := vx_backW (hh := hh) (bytes := bytes) (maxL := maxL) (ret := ret) hM hp.1 hrc hrs hfr hlo hws hcw (fun a' U hW => word_at hW (Or.inl (by first | rfl | simp [Cond.onTables, Cond.keeps, Cond.steady])) hini)
  obtain ⟨hx, hb, hml, ho, -⟩ := S
  intro T hT X
  rcases vx_callSX X hx (hh := hh) (bytes := bytes) (maxL := maxL) (ret := ret) ho hl hstt hini hcode hy hK hg (hsize.trans hml.symm) (argsL := As) (rest := rest) (fun sig h => hn.trans (hlen sig h)) hstack hW (by rw [hb]; exact hdg)
    (fun vm₁ hW₁ => ⟨hf.1, hf.2, hp.2 (T.setVm vm₁) hT hW₁⟩) with ⟨v, vm₁, ⟨U', l2, c2, s2⟩, hW₁, X', ⟨g', mk, t, L, e1, e2, hq, h1, hL, h2, h3⟩, st⟩ | ⟨q, vm₁, ⟨U', l2, c2, s2⟩, hW₁, X', ⟨g', mk, t, L, E, ce, e1, e2, hq, hce, hcv, hcl, h1, hL, h2, h3⟩, st⟩
  · dsimp only [Pt.U, Pt.locs, Pt.cells, Pt.slots] at X' e1 e2 h1 h2 h3 st
    subst h1; subst h2; subst h3
    exact Or.inl ⟨v, (T.setVm vm₁).calling g' mk As.toArray, t, U', L, hT, X', hL, e1, e2, hq, st⟩
  · dsimp only [Pt.U, Pt.locs, Pt.cells, Pt.slots] at X' e1 e2 h1 h2 h3 st hcl
    subst h1; subst h2; subst h3
    exact Or.inr ⟨q, (T.setVm vm₁).calling g' mk As.toArray, t, U', L, E, ce, hT, X', hL, e1, e2, hq, hce, hcv, vx_cls hW₁ hcl, st⟩
end
end VXH
theorem vx_ofWH {l : Launch} {y : MethodName} {ws ws' : List Cond} {rm : Room} {Pc : Array Value → State → Prop} {Qc : Array Value → State → Outcome → State → Prop} {XC : String → State → State → Prop} {mc ms : Nat} {free : Addr → Prop} {cc : ByteArray} {maxL : Nat} {ret : Option FieldType} {hh : List (Nat × Nat × Nat × Nat)}
    (hy : plainName y.cls = true) (hw : ws = Cond.codeWith y cc maxL ret hh :: ws')
    (body : ∀ p e s m args below meth c s₁, BodyLoose p l y (headSpec ws rm) cc maxL ret e s m args below meth c s₁ → c.maxLocals = maxL → Pc args s →
      W p l e (headSpec ws rm).room s m args below meth c s.heap [] 0 0 (vx_MQ below Qc XC args s mc ms free) (entryFrame m args maxL)) : vx_Met l y ws rm Pc Qc XC mc ms free := by
  refine MetFree.of_bodyS (code := cc) (maxLocals := maxL) (ret := ret) hy ?_ ?_
  · intro args s m h hn
    obtain ⟨m9, meth, c, hn9, h1, h2, h3, h4, -, h5, h6, -⟩ := Cond.codeWith_spec (atoms_spec (ws := ws) h _ (by rw [hw]; exact List.mem_cons_self))
    cases hn.symm.trans hn9
    exact ⟨meth, c, h1, h2, h3, h4, h5, h6⟩
  · intro p e s m args below meth c s₁ B hml hP _
    have hh0 : s₁.heap = s.heap := by rw [B.state]; rfl
    obtain ⟨t, a1, o, b1, b2, b3⟩ := body p e s m args below meth c s₁ B hml hP s₁ hh0 (Stand.of_body B)
    exact ⟨t, o, a1, b1, b2, b3⟩
/-! ===== END ===== -/

/-! ===== BEGIN what the machine throws by itself, no traces kept ===== -/
section VXM
set_option maxHeartbeats 1000000 in
/-- the machine throws cls with the message text, no traces kept: from its note over the frame g to 'throwing' over the same frame (follows the proofs of Stand.vmThrowsMessage, Shelf/KitTracedVmS.lean, and Stand.throwsMessageColdBareV, StandMessageColdV.lean, without the step out of the frame) -/
theorem vx_vmAt {p : Program} {l : Launch} {e : Env} {R : Room} {s : State} {m₀ : MethodId} {args : Array Value} {below : List Frame} {meth : Method} {c : Code} {W : State} {locs : List Loc} {cells slots : Nat}
    (X : Stand p l e R s m₀ args below meth c W locs cells slots) (hexec : p.tables.exec = Jvm.exec) (htr : e.platform.stackTraces = false) {cls : String} {names : List String} {text : String}
    (hcls : Bundle.fit cls = true) (hnames : ∀ n ∈ names, Bundle.fit n = true) (hsoe : (cls == "java/lang/StackOverflowError") = false) (hoom : (cls == "java/lang/OutOfMemoryError") = false)
    (h : ∀ a ∈ Bundle.messageArmAtoms cls names, a.before args s = true)
    (hlocs : ∀ x ∈ locs, ∀ cell, s.heap[x.base]? = some cell → cell.vm.isStatics = false)
    (htext : (text == notModelled) = false) (hlimit : ¬ (stringBytes (stringToUtf16 text)).size > e.platform.arrayLengthLimit) (hheap : ¬ (stringBytes (stringToUtf16 text)).size * componentBytes .byte > e.platform.maxHeapBytes)
    {g : JFrame} (hg : g.method = m₀) (hsize : g.locals.size = c.maxLocals)
    (hRframes : names.length + 4 < R.frames) (hRlocals : 2 * g.monitorRoom + (g.stack.map fun v => v.category).sum + 10240 ≤ R.locals) (hshort : 13 * names.length + 55 ≤ 10240)
    (hRcells : cells + 3 ≤ R.cells) (hRslots : slots + ((stringBytes (stringToUtf16 text)).size + 4 + 6) ≤ R.slots) (hlocks : meth.locks = false) :
    ∃ (S : State) (q : Addr) (ce : Cell), (∀ target, Steps p.tables e below ((S.setTop g).pushFrame (.throwing q)) target → Steps p.tables e below ((W.setTop g).pushFrame (.throwNew cls (some text) none)) target) ∧
      Stand p l e R s m₀ args below meth c S locs (cells + 3) (slots + ((stringBytes (stringToUtf16 text)).size + 4 + 6)) ∧ S.heap[q]? = some ce ∧ s.vm.findClass cls = some ce.cls ∧ ce.vm = .none := by
  have howns : e.platform.frameOwnsMonitors = true := by rw [X.admits.platform]
  have hfin : e.platform.finalization = false := by rw [X.admits.platform]
  have hpl : e.platform.magicAccessors = ({} : Platform).magicAccessors := by rw [X.admits.platform]
  have a : ∀ x, x ∈ Bundle.messageArmAtoms cls names → x.holds args s none s [] = true := fun x hx => h x hx
  obtain ⟨T, Z0, L, -, Y⟩ := ThrowableC.of_atoms (args := args) howns hfin hpl (fun x hx => h x (by simp [Bundle.messageArmAtoms, hx]))
  obtain ⟨Z, M, LZ, LM, hnZ⟩ := Init0T.ofS_atoms (args := args) hpl L Y (fun x hx => h x (by simp [Bundle.messageArmAtoms, hx]))
  obtain ⟨P1, Ps, hlen, L1, hL, hP1m, hlink1, hlink⟩ := Bundle.chainS (args := args) hpl hnZ names cls hcls hnames (fun x hx => h x (by simp [Bundle.messageArmAtoms, hx]))
  obtain ⟨Zs, LZs, hn4, hfitv, hfitc⟩ := StringT.of_atoms (args := args) (fun x hx => h x (by simp [Bundle.messageArmAtoms, hx]))
  have hfound : s.vm.findClass cls = some P1.m.cls := findClass_of_methodNamed hP1m
  obtain ⟨c1, kX, hc1, hk, hord, -, -, hn6⟩ := Cond.instantiable_spec (a (.instantiable cls 6) (by simp [Bundle.messageArmAtoms]))
  cases Option.some.inj (hc1.symm.trans hfound)
  have hinit := Cond.initialized_spec hfound hk (a (.initialized cls) (by simp [Bundle.messageArmAtoms]))
  have hctor : kX.findMethod "<init>" "(Ljava/lang/String;)V" = some P1.m.idx := findMethod_of_methodNamed hP1m hk
  have hsel0 : selectMethod e.platform s.vm P1.m.cls T.fill0 = .method T.fill0 := by
    obtain ⟨c2, r2, m2, q1, q2, q3, q4, -⟩ := Cond.selects_spec (a (.selects cls Bundle.tFill0 Bundle.tFill0) (by simp [Bundle.messageArmAtoms]))
    cases Option.some.inj (q1.symm.trans hfound)
    cases Option.some.inj (q2.symm.trans (State.methodFound?_of_named Y.fill0 (by decide)))
    cases Option.some.inj (q3.symm.trans Y.fill0)
    rw [Launch.admits_selectMethod X.admits]; exact q4
  have hselF : selectMethod e.platform s.vm P1.m.cls T.fill = .method T.fill := by
    obtain ⟨c2, r2, m2, q1, q2, q3, q4, -⟩ := Cond.selects_spec (a (.selects cls Bundle.tFill Bundle.tFill) (by simp [Bundle.messageArmAtoms]))
    cases Option.some.inj (q1.symm.trans hfound)
    cases Option.some.inj (q2.symm.trans (State.methodFound?_of_named Y.fill (by decide)))
    cases Option.some.inj (q3.symm.trans Y.fill)
    rw [Launch.admits_selectMethod X.admits]; exact q4
  obtain ⟨cellS0, hcS0, hiss⟩ := Y.statics
  obtain ⟨u0, hu0⟩ := Cond.staticRefV Y.unassigned L.unassignedStatic L.statics hcS0 hiss (a (.isRef (.static Bundle.tN "UNASSIGNED_STACK" Bundle.steD)) (by simp [Bundle.messageArmAtoms]))
  obtain ⟨sen, hsen⟩ := Cond.staticRefV Y.sentinel L.sentinelStatic L.statics hcS0 hiss (a (.isRef (.static Bundle.tN "SUPPRESSED_SENTINEL" Bundle.listD)) (by simp [Bundle.messageArmAtoms]))
  obtain ⟨ci198, i198, fB, hk198, hg198, ha198, hsB, -, hnB, htB, hffB⟩ := Cond.ownField (t := .object "java/lang/Object") Y.found L.cls (by decide +kernel) (a (.fieldLink Bundle.tN 198 Bundle.tN "backtrace" "Ljava/lang/Object;") (by simp [Bundle.messageArmAtoms])) (a (.lays Bundle.tN Bundle.tN "backtrace" "Ljava/lang/Object;") (by simp [Bundle.messageArmAtoms])) e.platform hpl
  obtain ⟨cellS, hcS', heS, -, hkeep⟩ := X.same.2.2.2.2.2 T.aS cellS0 hcS0
  have hcellS : W.heap[T.aS]? = some cellS := hcS'
  have hout' : ∀ i, (⟨T.aS, i⟩ : Loc) ∉ locs := fun i hmem => by
    have := hlocs _ hmem cellS0 hcS0
    rw [hiss] at this; cases this
  have hknownS : cellS.vm ≠ .unknown := by
    rw [heS]; intro hu
    rw [show cellS0.vm = .unknown from hu] at hiss
    cases hiss
  have hvU : cellS.slots[T.fUnassigned.slot]? = some u0.v := by rw [hkeep _ (hout' _)]; exact hu0
  have hvSen : cellS.slots[T.fSentinel.slot]? = some sen.v := by rw [hkeep _ (hout' _)]; exact hsen
  obtain ⟨iM, hffM⟩ := Y.msg
  obtain ⟨tyC, dC, hdC, hdnC⟩ := Cond.laysAt hfound hk Y.cause (a (.lays cls Bundle.tN "cause" "Ljava/lang/Throwable;") (by simp [Bundle.messageArmAtoms]))
  obtain ⟨tyS, dS, hdS, hdnS⟩ := Cond.laysAt hfound hk Y.stack (a (.lays cls Bundle.tN "stackTrace" Bundle.steD) (by simp [Bundle.messageArmAtoms]))
  obtain ⟨tyP, dP, hdP, hdnP⟩ := Cond.laysAt hfound hk Y.supp (a (.lays cls Bundle.tN "suppressedExceptions" Bundle.listD) (by simp [Bundle.messageArmAtoms]))
  obtain ⟨tyM, dM, hdM, hdnM⟩ := Cond.laysAt hfound hk hffM (a (.lays cls Bundle.tN "detailMessage" "Ljava/lang/String;") (by simp [Bundle.messageArmAtoms]))
  obtain ⟨tyB, dB, hdB, hdnB⟩ := Cond.laysAt hfound hk hffB (a (.lays cls Bundle.tN "backtrace" "Ljava/lang/Object;") (by simp [Bundle.messageArmAtoms]))
  have bC := Cond.laysApart hdB hdC hdnB hdnC (by rw [hnB, Y.causeName]; decide)
  have bS := Cond.laysApart hdB hdS hdnB hdnS (by rw [hnB, Y.stackName]; decide)
  have bP := Cond.laysApart hdB hdP hdnB hdnP (by rw [hnB, Y.suppName]; decide)
  have hbk : ((preparedCellV T.toThrowableT (freshCell P1.m.cls kX) (W.heap.size + 2) u0 sen).withEntry W.cur).slots[fB.slot]? = some .null := by
    have := fresh_default (c := P1.m.cls) tyB
    rw [htB] at this
    simpa [preparedCellV, Cell.setSlot, Cell.withEntry, Array.getElem?_setIfInBounds, bC, bS, bP, bC.symm, bS.symm, bP.symm, defaultValue] using this
  have tkC := Takes.of_laid (v := .ref (W.heap.size + 2)) hk hord tyC (by rw [Y.causeType]; rfl)
  have tkS := Takes.of_laid (v := u0.v) hk hord tyS (by rw [Y.stackType]; exact fits_refV_array _ u0)
  have tkP := Takes.of_laid (v := sen.v) hk hord tyP (by rw [Y.suppType]; exact fits_refV_object _ sen)
  have tkM := Takes.of_laid (v := .ref (W.heap.size + 1)) hk hord tyM (by rw [Y.msgType]; rfl)
  have hskip : SkipFacts T e.platform s (fun u => u) u0 ((preparedCellV T.toThrowableT (freshCell P1.m.cls kX) (W.heap.size + 2) u0 sen).withEntry W.cur) := ⟨{ ci198 := ci198, i198 := i198, fBack := fB }, ⟨hk198, hg198, ha198, hsB⟩, hbk, fun _ _ => rfl⟩
  have h0 : At W g.method c below := by rw [hg]; exact X.here
  obtain ⟨hbeyond, hfreeW⟩ := X.vmMayThrow hsize (.throwNew cls (some text) none) (fun f hf => by cases hf) rfl hRlocals
  have hfr' : W.frames.length + Ps.length + 4 < (e.platform.stackLimits W.me).1 := by have := X.framesAbove hRframes; omega
  have hwd' : (stackUse (.java g :: W.frames.tail)).2 + 13 * Ps.length + 55 ≤ (e.platform.stackLimits W.me).2 := by have := X.stackAbove hsize (K := 13 * Ps.length + 55) (by omega); omega
  have hslots : W.slotsUsed + (stringBytes (stringToUtf16 text)).size + Zs.kS.instanceTypes.size + kX.instanceTypes.size ≤ e.platform.maxSlots := by
    have := X.slotsAbove hRslots
    rw [hn4, hn6]
    omega
  obtain ⟨vm', hW', st⟩ := Steps.vmThrowsMessageColdByV p (s₀ := s) (S := W) (g := g) h0 hexec T L Z LZ M LM X.warmed (t := W.cur) rfl Zs LZs P1 L1 Ps hL hlink1 hlink hsoe hoom hfound hk hinit hord hctor
    (Launch.admits_hotImplicitExceptions X.admits) hbeyond hfreeW htext hlimit hheap (X.cellsAbove hRcells) hslots (hfitv _) (hfitc _)
    (Nn := fun u => u) heapOnly_id (fun _ _ => rfl) (fun _ => rfl) (fun u x y => setCell_twice _ _ _ _) (fun _ => Nat.le_refl _) (cN := ((preparedCellV T.toThrowableT (freshCell P1.m.cls kX) (W.heap.size + 2) u0 sen).withEntry W.cur))
    hsel0 hcellS hknownS hvU tkS (fun _ hu => hu) (fun _ hu => hu) rfl rfl rfl (by simp [preparedCellV, Cell.setSlot, Cell.withEntry]) hskip (fun _ _ hA hW _ hroom _ hrest => L.nativeOff p htr hA hW hroom hrest) hselF hvSen tkC tkP tkM Y.objLocals rfl hfr' hwd'
  rw [plainBareV_eq T.toThrowableT (W.heap.size + 2) u0 sen (.ref (W.heap.size + 1)) W.cur rfl rfl] at st
  obtain ⟨-, -, w3, w4, -, -, -⟩ := withThrown_facts e.platform W Zs text P1.m.cls kX
  have X3 := ((X.pushed (bytesOf Zs.cB (stringToUtf16 text))).pushed (stringAt Zs.cS Zs.kS Zs.fv Zs.fc (stringToUtf16 text) W.heap.size)).pushed (freshCell P1.m.cls kX)
  rw [← withString_eq] at X3
  have X4 := X3.noted hW'
  have ha : (W.heap.size + 2) < ((withThrown W Zs text P1.m.cls kX).setVm vm').heap.size := by show _ < (withThrown W Zs text P1.m.cls kX).heap.size; rw [w3]; omega
  have hcell : ((withThrown W Zs text P1.m.cls kX).setVm vm').heap[(W.heap.size + 2)]? = some (freshCell P1.m.cls kX) := w4
  have X5 := ((((X4.stored hcell T.fCause.slot (.ref (W.heap.size + 2))).storedAgain ha T.fStack.slot u0.v).storedAgain ha T.fSupp.slot sen.v).storedAgain ha T.fStack.slot u0.v).storedAgain ha T.fMsg.slot (.ref (W.heap.size + 1))
  obtain ⟨g₁, hfrM⟩ := X5.frames_eq
  have hU : ((((withThrown W Zs text P1.m.cls kX).setVm vm').setCell (W.heap.size + 2) (plainBareV T.toThrowableT (freshCell P1.m.cls kX) (W.heap.size + 2) u0 sen (.ref (W.heap.size + 1)))).setTop g).pushFrame (.throwing (W.heap.size + 2)) = (((withThrown W Zs text P1.m.cls kX).setVm vm').setCell (W.heap.size + 2) (plainBareV T.toThrowableT (freshCell P1.m.cls kX) (W.heap.size + 2) u0 sen (.ref (W.heap.size + 1)))).setFrames (.throwing (W.heap.size + 2) :: .java g :: below) := by
    rw [State.pushFrame, State.frames_setTop _ hfrM, State.setTop_of_frames _ hfrM, State.setFrames_setFrames]
  have b1 : (bytesOf Zs.cB (stringToUtf16 text)).slots.size = (stringBytes (stringToUtf16 text)).size := by
    rw [(Cell.writeAll_facts _ _).2.2]; simp [bytes0]
  have b2 : (stringAt Zs.cS Zs.kS Zs.fv Zs.fc (stringToUtf16 text) W.heap.size).slots.size = 4 := by simp [string0, Cell.setSlot, hn4]
  have b3 : (freshCell P1.m.cls kX).slots.size = 6 := by simp [hn6]
  rw [b1, b2, b3] at X5
  have e9 : slots + (stringBytes (stringToUtf16 text)).size + 4 + 6 = slots + ((stringBytes (stringToUtf16 text)).size + 4 + 6) := by omega
  rw [e9] at X5
  simp only [List.append_assoc, List.cons_append, List.nil_append] at X5
  refine ⟨((withThrown W Zs text P1.m.cls kX).setVm vm').setCell (W.heap.size + 2) (plainBareV T.toThrowableT (freshCell P1.m.cls kX) (W.heap.size + 2) u0 sen (.ref (W.heap.size + 1))), W.heap.size + 2, _, fun target ht => st _ (by rw [X.tail, ← hU]; exact ht),
    X5.forget (fun y hy => ?_), heapAt_setCell_self _ ha, hfound, rfl⟩
  simp only [List.mem_cons, List.not_mem_nil, or_false] at hy
  have hge : s.heap.size ≤ W.heap.size := X.same.2.1
  rcases hy with rfl | rfl | rfl | rfl | rfl <;> exact Nat.le_trans hge (Nat.le_add_right _ 2)
set_option maxHeartbeats 1000000 in
/-- the machine throws NullPointerException, no traces kept: from its note over the frame g to 'throwing' over the same frame (follows the proof of Stand.vmThrowsNpe, Shelf42/KT2.lean; throwsNpeColdBareVAt, Shelf42/NT91.lean, called) -/
theorem vx_npeAt {p : Program} {l : Launch} {e : Env} {R : Room} {s : State} {m₀ : MethodId} {args : Array Value} {below : List Frame} {meth : Method} {c : Code} {W : State} {locs : List Loc} {cells slots : Nat}
    (X : Stand p l e R s m₀ args below meth c W locs cells slots) (hexec : p.tables.exec = Jvm.exec) (htr : e.platform.stackTraces = false) {n : Nat}
    (h : ∀ a ∈ Bundle.npeArmAtoms n, a.before args s = true)
    (hlocs : ∀ x ∈ locs, ∀ cell, s.heap[x.base]? = some cell → cell.vm.isStatics = false)
    {g : JFrame} (hg : g.method = m₀) (hsize : g.locals.size = c.maxLocals)
    (hRframes : 7 < R.frames) (hRlocals : 2 * g.monitorRoom + (g.stack.map fun v => v.category).sum + 10240 ≤ R.locals)
    (hRcells : cells + 1 ≤ R.cells) (hRslots : slots + n ≤ R.slots) (hlocks : meth.locks = false) :
    ∃ (S : State) (q : Addr) (ce : Cell), (∀ target, Steps p.tables e below ((S.setTop g).pushFrame (.throwing q)) target → Steps p.tables e below ((W.setTop g).pushFrame (.throwNew "java/lang/NullPointerException" none none)) target) ∧
      Stand p l e R s m₀ args below meth c S locs (cells + 1) (slots + n) ∧ S.heap[q]? = some ce ∧ s.vm.findClass "java/lang/NullPointerException" = some ce.cls ∧ ce.vm = .none := by
  have howns : e.platform.frameOwnsMonitors = true := by rw [X.admits.platform]
  have hfin : e.platform.finalization = false := by rw [X.admits.platform]
  have hpl : e.platform.magicAccessors = ({} : Platform).magicAccessors := by rw [X.admits.platform]
  have hpl2 : e.platform.arrayCloneIsPublic = true := by rw [X.admits.platform]
  have a' : ∀ x, x ∈ Bundle.npeArmAtoms n → x.holds args s none s [] = true := fun x hx => h x hx
  obtain ⟨T, Z, L, LZ, Y⟩ := ThrowableC.of_atoms (args := args) howns hfin hpl (fun x hx => h x (by simp [Bundle.npeArmAtoms, hx]))
  obtain ⟨N, LN, hcN, hnNF, hordN, hffS⟩ := NpeC.of_atoms (args := args) hpl hpl2 L Y (fun x hx => h x (by simp [Bundle.npeArmAtoms, hx]))
  obtain ⟨P1, L1, hP1m, hP1s⟩ := PassC.of_atoms (args := args) (s := s) hpl (X := Bundle.nN) (Y := Bundle.rN) (by decide) (by decide) LibCode.NullPointerException.Init0.at_0 LibCode.NullPointerException.Init0.at_1 LibCode.NullPointerException.Init0.at_4 (fun x hx => h x (by simp [Bundle.npeArmAtoms, hx]))
  obtain ⟨PR, LR, hPRm, hPRs⟩ := PassC.of_atoms (args := args) (s := s) hpl (X := Bundle.rN) (Y := Bundle.eN) (by decide) (by decide) LibCode.RuntimeException.Init0.at_0 LibCode.RuntimeException.Init0.at_1 LibCode.RuntimeException.Init0.at_4 (fun x hx => h x (by simp [Bundle.npeArmAtoms, hx]))
  obtain ⟨PE, LEx, hPEm, hPEs⟩ := PassC.of_atoms (args := args) (s := s) hpl (X := Bundle.eN) (Y := Bundle.tN) (by decide) (by decide) LibCode.Exception.Init0.at_0 LibCode.Exception.Init0.at_1 LibCode.Exception.Init0.at_4 (fun x hx => h x (by simp [Bundle.npeArmAtoms, hx]))
  have hfound : s.vm.findClass Bundle.nN = some P1.m.cls := findClass_of_methodNamed hP1m
  have ecls : N.cN = P1.m.cls := Option.some.inj (hcN.symm.trans hfound)
  have hk : s.vm.classes[P1.m.cls]? = some N.kN := by rw [← ecls]; exact LN.cls
  have hinit := Cond.initialized_spec hfound hk (a' (.initialized Bundle.nN) (by simp [Bundle.npeArmAtoms]))
  have hctor : N.kN.findMethod "<init>" "()V" = some P1.m.idx := findMethod_of_methodNamed hP1m hk
  obtain ⟨c1, k1, hc1, hk1, -, -, -, hn⟩ := Cond.instantiable_spec (a' (.instantiable Bundle.nN n) (by simp [Bundle.npeArmAtoms]))
  cases Option.some.inj (hc1.symm.trans hfound)
  cases Option.some.inj (hk1.symm.trans hk)
  have hfsz : (freshCell P1.m.cls N.kN).slots.size = n := by simp [hn]
  have hlink1 : P1.sup = PR.m := Option.some.inj (hP1s.symm.trans hPRm)
  have hlinkR : PR.sup = PE.m := Option.some.inj (hPRs.symm.trans hPEm)
  have hlinkE : PE.sup = Z.m T.toThrowableT := Option.some.inj (hPEs.symm.trans Y.init0)
  have hLs : ∀ P, P ∈ [PR, PE] → P.Links0 e.platform s := fun P hP => by
    simp only [List.mem_cons, List.not_mem_nil, or_false] at hP
    rcases hP with rfl | rfl
    · exact LR
    · exact LEx
  have hsel0 : selectMethod e.platform s.vm P1.m.cls T.fill0 = .method T.fill0 := by
    obtain ⟨c2, r2, m2, q1, q2, q3, q4, -⟩ := Cond.selects_spec (a' (.selects Bundle.nN Bundle.tFill0 Bundle.tFill0) (by simp [Bundle.npeArmAtoms]))
    cases Option.some.inj (q1.symm.trans hfound)
    cases Option.some.inj (q2.symm.trans (State.methodFound?_of_named Y.fill0 (by decide)))
    cases Option.some.inj (q3.symm.trans Y.fill0)
    rw [Launch.admits_selectMethod X.admits]; exact q4
  have hselF : selectMethod e.platform s.vm P1.m.cls T.fill = .method N.fill := by
    obtain ⟨c2, r2, m2, q1, q2, q3, q4, -⟩ := Cond.selects_spec (a' (.selects Bundle.nN Bundle.tFill Bundle.nFill) (by simp [Bundle.npeArmAtoms]))
    cases Option.some.inj (q1.symm.trans hfound)
    cases Option.some.inj (q2.symm.trans (State.methodFound?_of_named Y.fill (by decide)))
    cases Option.some.inj (q3.symm.trans hnNF)
    rw [Launch.admits_selectMethod X.admits]; exact q4
  obtain ⟨cellS0, hcS0, hiss⟩ := Y.statics
  obtain ⟨u0, hu0⟩ := Cond.staticRefV Y.unassigned L.unassignedStatic L.statics hcS0 hiss (a' (.isRef (.static Bundle.tN "UNASSIGNED_STACK" Bundle.steD)) (by simp [Bundle.npeArmAtoms]))
  obtain ⟨sen, hsen⟩ := Cond.staticRefV Y.sentinel L.sentinelStatic L.statics hcS0 hiss (a' (.isRef (.static Bundle.tN "SUPPRESSED_SENTINEL" Bundle.listD)) (by simp [Bundle.npeArmAtoms]))
  obtain ⟨ci198, i198, fB, hk198, hg198, ha198, hsB, -, hnB, htB, hffB⟩ := Cond.ownField (t := .object "java/lang/Object") Y.found L.cls (by decide +kernel) (a' (.fieldLink Bundle.tN 198 Bundle.tN "backtrace" Bundle.objD) (by simp [Bundle.npeArmAtoms])) (a' (.lays Bundle.tN Bundle.tN "backtrace" Bundle.objD) (by simp [Bundle.npeArmAtoms])) e.platform hpl
  obtain ⟨cellS, hcS', heS, -, hkeep⟩ := X.same.2.2.2.2.2 T.aS cellS0 hcS0
  have hcellS : W.heap[T.aS]? = some cellS := hcS'
  have hout' : ∀ i, (⟨T.aS, i⟩ : Loc) ∉ locs := fun i hmem => by
    have := hlocs _ hmem cellS0 hcS0
    rw [hiss] at this; cases this
  have hknownS : cellS.vm ≠ .unknown := by
    rw [heS]; intro hu
    rw [show cellS0.vm = .unknown from hu] at hiss
    cases hiss
  have hvU : cellS.slots[T.fUnassigned.slot]? = some u0.v := by rw [hkeep _ (hout' _)]; exact hu0
  have hvSen : cellS.slots[T.fSentinel.slot]? = some sen.v := by rw [hkeep _ (hout' _)]; exact hsen
  obtain ⟨tyC, dC, hdC, hdnC⟩ := Cond.laysAt hfound hk Y.cause (a' (.lays Bundle.nN Bundle.tN "cause" "Ljava/lang/Throwable;") (by simp [Bundle.npeArmAtoms]))
  obtain ⟨tyS, dS, hdS, hdnS⟩ := Cond.laysAt hfound hk Y.stack (a' (.lays Bundle.nN Bundle.tN "stackTrace" Bundle.steD) (by simp [Bundle.npeArmAtoms]))
  obtain ⟨tyP, dP, hdP, hdnP⟩ := Cond.laysAt hfound hk Y.supp (a' (.lays Bundle.nN Bundle.tN "suppressedExceptions" Bundle.listD) (by simp [Bundle.npeArmAtoms]))
  obtain ⟨tyX, dX, hdX, hdnX⟩ := Cond.laysAt hfound hk hffS (a' (.lays Bundle.nN Bundle.nN "extendedMessageState" "I") (by simp [Bundle.npeArmAtoms, Bundle.npeAtoms]))
  obtain ⟨hnX, htX⟩ := State.fieldFound?_type hffS (t := .int) (by decide +kernel)
  have xC := Cond.laysApart hdC hdX hdnC hdnX (by rw [hnX, Y.causeName]; decide)
  have xS := Cond.laysApart hdS hdX hdnS hdnX (by rw [hnX, Y.stackName]; decide)
  have xP := Cond.laysApart hdP hdX hdnP hdnX (by rw [hnX, Y.suppName]; decide)
  have hv0 : (freshCell P1.m.cls N.kN).slots[N.fState.slot]? = some (.int 0) := by
    have := fresh_default (c := P1.m.cls) tyX
    rw [htX] at this; exact this
  obtain ⟨tyB, dB, hdB, hdnB⟩ := Cond.laysAt hfound hk hffB (a' (.lays Bundle.nN Bundle.tN "backtrace" Bundle.objD) (by simp [Bundle.npeArmAtoms]))
  have bC := Cond.laysApart hdB hdC hdnB hdnC (by rw [hnB, Y.causeName]; decide)
  have bS := Cond.laysApart hdB hdS hdnB hdnS (by rw [hnB, Y.stackName]; decide)
  have bP := Cond.laysApart hdB hdP hdnB hdnP (by rw [hnB, Y.suppName]; decide)
  have bX := Cond.laysApart hdB hdX hdnB hdnX (by rw [hnB, hnX]; decide)
  have hbk : ((npeCell N.toNpeT (preparedCellV T.toThrowableT (freshCell P1.m.cls N.kN) W.heap.size u0 sen) W.cur).withEntry W.cur).slots[fB.slot]? = some .null := by
    have := fresh_default (c := P1.m.cls) tyB
    rw [htB] at this
    simpa [npeCell, preparedCellV, Cell.setSlot, Cell.withEntry, Array.getElem?_setIfInBounds, bC, bS, bP, bX, bC.symm, bS.symm, bP.symm, bX.symm, defaultValue] using this
  have tkC := Takes.of_laid (v := .ref W.heap.size) hk hordN tyC (by rw [Y.causeType]; rfl)
  have tkS := Takes.of_laid (v := u0.v) hk hordN tyS (by rw [Y.stackType]; exact fits_refV_array _ u0)
  have tkP := Takes.of_laid (v := sen.v) hk hordN tyP (by rw [Y.suppType]; exact fits_refV_object _ sen)
  have tkX := Takes.of_laid (v := .int 1) hk hordN tyX (by rw [htX]; rfl)
  have hskip : SkipFacts T e.platform s (fun u => u) u0 ((npeCell N.toNpeT (preparedCellV T.toThrowableT (freshCell P1.m.cls N.kN) W.heap.size u0 sen) W.cur).withEntry W.cur) := ⟨{ ci198 := ci198, i198 := i198, fBack := fB }, ⟨hk198, hg198, ha198, hsB⟩, hbk, fun _ _ => rfl⟩
  obtain ⟨vm', X3, st, -⟩ := X.throwsNpeColdBareVAt hexec hg hsize T L Z LZ N LN P1 L1 [PR, PE] hLs hlink1 ⟨hlinkR, hlinkE, trivial⟩ hfound hk hinit hordN hctor hsel0 hselF hcellS hknownS hvU hvSen
    hv0 xC xS xP tkC tkS tkP tkX Y.objLocals hskip (fun _ _ hA hW _ hroom _ hrest => L.nativeOff p htr hA hW hroom hrest) (by simpa using hRframes) hRlocals (by simp) hRcells (by rw [hn]; exact hRslots)
  have hlt : W.heap.size < ((W.pushCell (freshCell P1.m.cls N.kN)).setVm vm').heap.size := by
    show W.heap.size < (W.pushCell (freshCell P1.m.cls N.kN)).heap.size
    rw [State.heap_size_pushCell]; omega
  rw [hfsz] at X3
  obtain ⟨g₁, hfrM⟩ := X3.frames_eq
  have hU : ((((W.pushCell (freshCell P1.m.cls N.kN)).setVm vm').setCell W.heap.size (npeBareV T.toThrowableT N.toNpeT (freshCell P1.m.cls N.kN) W.heap.size u0 sen)).setTop g).pushFrame (.throwing W.heap.size) = (((W.pushCell (freshCell P1.m.cls N.kN)).setVm vm').setCell W.heap.size (npeBareV T.toThrowableT N.toNpeT (freshCell P1.m.cls N.kN) W.heap.size u0 sen)).setFrames (.throwing W.heap.size :: .java g :: below) := by
    rw [State.pushFrame, State.frames_setTop _ hfrM, State.setTop_of_frames _ hfrM, State.setFrames_setFrames]
  refine ⟨_, W.heap.size, _, fun target ht => st.trans (by rw [← hU]; exact ht), X3.forget (fun y hy => ?_), heapAt_setCell_self _ hlt, hfound, rfl⟩
  simp only [List.mem_cons, List.not_mem_nil, or_false] at hy
  have hge : s.heap.size ≤ W.heap.size := X.same.2.1
  rcases hy with rfl | rfl | rfl | rfl | rfl <;> exact hge
/-- the words of a machine's NullPointerException, but the four that speak of the heap -/
def vx_atN (n : Nat) : List Cond := (Bundle.npeArmAtoms n).filter vx_no
/-- the words of a machine's throw with a message, but the four that speak of the heap -/
def vx_atM (X : String) (names : List String) : List Cond := (Bundle.messageArmAtoms X names).filter vx_no
section
variable {p : Program} {l : Launch} {e : Env} {R : Room} {s : State} {m : MethodId} {args : Array Value} {below : List Frame} {meth : Method} {c : Code} {H : Heap} {locs : List Loc} {cells slots : Nat}
/-- a frame seen from a rebased start, seen from the first start again -/
theorem vx_back9 {T S : State} {R' : Room} {k n : Nat} (X : Stand p l e R s m args below meth c T locs cells slots) (Y : Stand p l e R' ((T.setVm s.vm).setFrames (.invoking m args :: below)) m args below meth c T [] 0 0) (Z : Stand p l e R' ((T.setVm s.vm).setFrames (.invoking m args :: below)) m args below meth c S [] k n) :
    Stand p l e R s m args below meth c S locs (cells + k) (slots + n) := by
  have hW0 : s.WarmedH ((T.setVm s.vm).setFrames (.invoking m args :: below)).vm := State.WarmedH.refl s
  refine { admits := X.admits, cas := X.cas, clock := X.clock, frames := X.frames, room := X.room, hears := X.hears, method := X.method, code := X.code, here := Z.here, tail := Z.tail, warmed := State.WarmedH.trans hW0 Z.warmed, limits := Z.limits.trans (Y.limits.symm.trans X.limits), bytes := Z.bytes.trans (Y.bytes.symm.trans X.bytes), same := ?_ }
  obtain ⟨e1, e2⟩ := Z.same
  rw [State.setFrames_setFrames] at e1
  have h2 : (T.setVm s.vm).sameButNew (S.setVm s.vm) [] k n := ⟨e1, e2⟩
  have h3 := X.same.trans h2
  rw [List.append_nil] at h3
  exact h3
/-- from the machine's note that E is thrown here with this text -/
def vx_Note (p : Program) (l : Launch) (e : Env) (R : Room) (s : State) (m : MethodId) (args : Array Value) (below : List Frame) (meth : Method) (c : Code) (H : Heap) (locs : List Loc) (cells slots : Nat) (Q : State → Prop) (g : JFrame) (E text : String) : Prop :=
  ∀ T : State, T.heap = H → Stand p l e R s m args below meth c T locs cells slots → ∃ t, Steps p.tables e below ((T.setTop g).pushFrame (.throwNew E (some text) none)) t ∧ Q t
theorem vx_vm {pc : Nat} {ls : Array Slot} {rest : List Value} {Q : State → Prop} (hexec : p.tables.exec = Jvm.exec) (hl : l.stackTraces = false) {cls text : String} {names : List String} {nb : Nat} {A : Nat → Prop}
    (hcls : Bundle.fit cls = true) (hnames : ∀ n ∈ names, Bundle.fit n = true) (hsoe : (cls == "java/lang/StackOverflowError") = false) (hoom : (cls == "java/lang/OutOfMemoryError") = false)
    (hat : ∀ w ∈ vx_atM cls names, w.before args s = true) (hgood : ∀ w ∈ vx_atM cls names, vx_ot w = true)
    (hU : vx_Zq Bundle.tN "UNASSIGNED_STACK" Bundle.steD A s s.heap) (hN : vx_Zq Bundle.tN "SUPPRESSED_SENTINEL" Bundle.listD A s s.heap) (hS : va_S A s.heap H locs) (hsize : ls.size = c.maxLocals)
    (htext : (text == notModelled) = false) (hnb : (stringBytes (stringToUtf16 text)).size ≤ nb) (hnb1 : nb ≤ 1000)
    (hRframes : names.length + 4 < R.frames) (hRlocals : (rest.map fun v => v.category).sum + 10240 ≤ R.locals) (hshort : 13 * names.length + 55 ≤ 10240) (hRcells : cells + 3 ≤ R.cells) (hRslots : slots + (nb + 10) ≤ R.slots) (hlocks : meth.locks = false)
    (k : ∀ (H1 : Heap) (q9 : Addr) (ce : Cell), H.size ≤ H1.size → (∀ q : Nat, q < H.size → H1[q]? = H[q]?) → va_S A s.heap H1 locs → H1[q9]? = some ce → ce.vm = .none → s.vm.findClass cls = some ce.cls → vx_W p l e R s m args below meth c H1 locs (cells + 3) (slots + (nb + 10)) Q (F0 m pc ls rest) q9) :
    vx_Note p l e R s m args below meth c H locs cells slots Q (F0 m pc ls rest) cls text := by
  intro T hT X
  have htr : e.platform.stackTraces = false := (show e.platform.stackTraces = l.stackTraces by rw [X.admits.platform]).trans hl
  have Y := vx_rebase X (R' := { frames := R.frames, locals := R.locals, cells := 3, slots := nb + 10 }) (Nat.le_refl _) (Nat.le_refl _) hRcells hRslots
  have hhp : ((T.setVm s.vm).setFrames (.invoking m args :: below)).heap = H := hT
  have hW0 : s.WarmedH ((T.setVm s.vm).setFrames (.invoking m args :: below)).vm := State.WarmedH.refl s
  have hat' : ∀ w ∈ vx_atM cls names, w.before args ((T.setVm s.vm).setFrames (.invoking m args :: below)) = true := fun w hw => vx_ot_at hW0 rfl (hgood w hw) (hat w hw)
  have hU' : vx_Zq Bundle.tN "UNASSIGNED_STACK" Bundle.steD A ((T.setVm s.vm).setFrames (.invoking m args :: below)) ((T.setVm s.vm).setFrames (.invoking m args :: below)).heap := by rw [hhp]; exact vx_Zq.moved hW0.alike (hU.kept hS.2.1)
  have hN' : vx_Zq Bundle.tN "SUPPRESSED_SENTINEL" Bundle.listD A ((T.setVm s.vm).setFrames (.invoking m args :: below)) ((T.setVm s.vm).setFrames (.invoking m args :: below)).heap := by rw [hhp]; exact vx_Zq.moved hW0.alike (hN.kept hS.2.1)
  obtain ⟨S, q, ce, st, Z, hce, hcl', hv⟩ := vx_vmAt Y hexec htr (cls := cls) (names := names) (text := text) hcls hnames hsoe hoom (vx_own hat' (vx_isRefq hU'.1) (vx_isRefq hN'.1) hU'.2.word hN'.2.word) (fun x hx => nomatch hx) htext
    (by rw [Launch.admits_arrayLengthLimit X.admits]; omega) (by rw [Launch.admits_maxHeapBytes X.admits]; simp only [componentBytes]; omega)
    (g := F0 m pc ls rest) rfl hsize hRframes (by show 2 * 0 + (rest.map fun v => v.category).sum + 10240 ≤ R.locals; omega) hshort (by show 0 + 3 ≤ 3; omega) (by show 0 + (_ + 4 + 6) ≤ nb + 10; omega) hlocks
  obtain ⟨f1, f2⟩ := vx_frame Z.same
  have f1' : H.size ≤ S.heap.size := by rw [← hT]; exact f1
  have f2' : ∀ q : Nat, q < H.size → S.heap[q]? = H[q]? := fun q hq => by
    rw [← hT]
    exact f2 q (by rw [← hT] at hq; exact hq) (fun z hz => nomatch hz)
  have X5 := vx_back9 X Y Z
  have X6 : Stand p l e R s m args below meth c S locs (cells + 3) (slots + (nb + 10)) := { X5 with same := X5.same.mono (by omega) (by omega) }
  obtain ⟨t, a1, b1⟩ := k S.heap q ce f1' f2' ⟨Nat.le_trans hS.1 f1', fun q h1 h2 => (f2' q (Nat.lt_of_lt_of_le h1 hS.1)).trans (hS.2.1 q h1 h2), hS.2.2⟩ hce hv hcl' S rfl X6
  exact ⟨t, st t a1, b1⟩
/-- from the machine's note that NullPointerException is thrown here -/
def vx_NoteN (p : Program) (l : Launch) (e : Env) (R : Room) (s : State) (m : MethodId) (args : Array Value) (below : List Frame) (meth : Method) (c : Code) (H : Heap) (locs : List Loc) (cells slots : Nat) (Q : State → Prop) (g : JFrame) : Prop :=
  ∀ T : State, T.heap = H → Stand p l e R s m args below meth c T locs cells slots → ∃ t, Steps p.tables e below ((T.setTop g).pushFrame (.throwNew "java/lang/NullPointerException" none none)) t ∧ Q t
theorem vx_npe {pc : Nat} {ls : Array Slot} {rest : List Value} {Q : State → Prop} (hexec : p.tables.exec = Jvm.exec) (hl : l.stackTraces = false) {nb : Nat} {A : Nat → Prop}
    (hat : ∀ w ∈ vx_atN nb, w.before args s = true) (hgood : ∀ w ∈ vx_atN nb, vx_ot w = true)
    (hU : vx_Zq Bundle.tN "UNASSIGNED_STACK" Bundle.steD A s s.heap) (hN : vx_Zq Bundle.tN "SUPPRESSED_SENTINEL" Bundle.listD A s s.heap) (hS : va_S A s.heap H locs) (hsize : ls.size = c.maxLocals)
    (hRframes : 7 < R.frames) (hRlocals : (rest.map fun v => v.category).sum + 10240 ≤ R.locals) (hRcells : cells + 1 ≤ R.cells) (hRslots : slots + nb ≤ R.slots) (hlocks : meth.locks = false)
    (k : ∀ (H1 : Heap) (q9 : Addr) (ce : Cell), H.size ≤ H1.size → (∀ q : Nat, q < H.size → H1[q]? = H[q]?) → va_S A s.heap H1 locs → H1[q9]? = some ce → ce.vm = .none → s.vm.findClass "java/lang/NullPointerException" = some ce.cls → vx_W p l e R s m args below meth c H1 locs (cells + 1) (slots + nb) Q (F0 m pc ls rest) q9) :
    vx_NoteN p l e R s m args below meth c H locs cells slots Q (F0 m pc ls rest) := by
  intro T hT X
  have htr : e.platform.stackTraces = false := (show e.platform.stackTraces = l.stackTraces by rw [X.admits.platform]).trans hl
  have Y := vx_rebase X (R' := { frames := R.frames, locals := R.locals, cells := 1, slots := nb }) (Nat.le_refl _) (Nat.le_refl _) hRcells hRslots
  have hhp : ((T.setVm s.vm).setFrames (.invoking m args :: below)).heap = H := hT
  have hW0 : s.WarmedH ((T.setVm s.vm).setFrames (.invoking m args :: below)).vm := State.WarmedH.refl s
  have hat' : ∀ w ∈ vx_atN nb, w.before args ((T.setVm s.vm).setFrames (.invoking m args :: below)) = true := fun w hw => vx_ot_at hW0 rfl (hgood w hw) (hat w hw)
  have hU' : vx_Zq Bundle.tN "UNASSIGNED_STACK" Bundle.steD A ((T.setVm s.vm).setFrames (.invoking m args :: below)) ((T.setVm s.vm).setFrames (.invoking m args :: below)).heap := by rw [hhp]; exact vx_Zq.moved hW0.alike (hU.kept hS.2.1)
  have hN' : vx_Zq Bundle.tN "SUPPRESSED_SENTINEL" Bundle.listD A ((T.setVm s.vm).setFrames (.invoking m args :: below)) ((T.setVm s.vm).setFrames (.invoking m args :: below)).heap := by rw [hhp]; exact vx_Zq.moved hW0.alike (hN.kept hS.2.1)
  obtain ⟨S, q, ce, st, Z, hce, hcl', hv⟩ := vx_npeAt Y hexec htr (n := nb) (vx_own hat' (vx_isRefq hU'.1) (vx_isRefq hN'.1) hU'.2.word hN'.2.word) (fun x hx => nomatch hx)
    (g := F0 m pc ls rest) rfl hsize hRframes (by show 2 * 0 + (rest.map fun v => v.category).sum + 10240 ≤ R.locals; omega) (by show 0 + 1 ≤ 1; omega) (by show 0 + nb ≤ nb; omega) hlocks
  obtain ⟨f1, f2⟩ := vx_frame Z.same
  have f1' : H.size ≤ S.heap.size := by rw [← hT]; exact f1
  have f2' : ∀ q : Nat, q < H.size → S.heap[q]? = H[q]? := fun q hq => by
    rw [← hT]
    exact f2 q (by rw [← hT] at hq; exact hq) (fun z hz => nomatch hz)
  have X5 := vx_back9 X Y Z
  have X6 : Stand p l e R s m args below meth c S locs (cells + 1) (slots + nb) := { X5 with same := X5.same.mono (by omega) (by omega) }
  obtain ⟨t, a1, b1⟩ := k S.heap q ce f1' f2' ⟨Nat.le_trans hS.1 f1', fun q h1 h2 => (f2' q (Nat.lt_of_lt_of_le h1 hS.1)).trans (hS.2.1 q h1 h2), hS.2.2⟩ hce hv hcl' S rfl X6
  exact ⟨t, st t a1, b1⟩
variable {Q : State → Prop} {cc : ByteArray} {pc : Nat} {ls : Array Slot} {rest : List Value}
theorem vx_idivZ (hexec : p.tables.exec = Jvm.exec) (hb : c.code = cc) {a b : Int32} (h0 : b = 0) (d : decode cc pc = .ok (.idiv, 1)) (k : vx_Note p l e R s m args below meth c H locs cells slots Q (F0 m pc ls rest) "java/lang/ArithmeticException" "/ by zero") :
    W p l e R s m args below meth c H locs cells slots Q (F0 m pc ls (.int b :: .int a :: rest)) := by
  intro T hT X
  obtain ⟨t, st, q⟩ := k T hT X
  exact ⟨t, X.idivZero hexec (g := F0 m pc ls (.int b :: .int a :: rest)) rfl (a := a) (rest := rest) (by rw [h0]) (by rw [hb]; exact d) t st, q⟩
theorem vx_iremZ (hexec : p.tables.exec = Jvm.exec) (hb : c.code = cc) {a b : Int32} (h0 : b = 0) (d : decode cc pc = .ok (.irem, 1)) (k : vx_Note p l e R s m args below meth c H locs cells slots Q (F0 m pc ls rest) "java/lang/ArithmeticException" "/ by zero") :
    W p l e R s m args below meth c H locs cells slots Q (F0 m pc ls (.int b :: .int a :: rest)) := by
  intro T hT X
  obtain ⟨t, st, q⟩ := k T hT X
  exact ⟨t, X.iremZero hexec (g := F0 m pc ls (.int b :: .int a :: rest)) rfl (a := a) (rest := rest) (by rw [h0]) (by rw [hb]; exact d) t st, q⟩
theorem vx_ldivZ (hexec : p.tables.exec = Jvm.exec) (hb : c.code = cc) {a b : Int64} (h0 : b = 0) (d : decode cc pc = .ok (.ldiv, 1)) (k : vx_Note p l e R s m args below meth c H locs cells slots Q (F0 m pc ls rest) "java/lang/ArithmeticException" "/ by zero") :
    W p l e R s m args below meth c H locs cells slots Q (F0 m pc ls (.long b :: .long a :: rest)) := by
  intro T hT X
  obtain ⟨t, st, q⟩ := k T hT X
  exact ⟨t, X.ldivZero hexec (g := F0 m pc ls (.long b :: .long a :: rest)) rfl (a := a) (rest := rest) (by rw [h0]) (by rw [hb]; exact d) t st, q⟩
theorem vx_lremZ (hexec : p.tables.exec = Jvm.exec) (hb : c.code = cc) {a b : Int64} (h0 : b = 0) (d : decode cc pc = .ok (.lrem, 1)) (k : vx_Note p l e R s m args below meth c H locs cells slots Q (F0 m pc ls rest) "java/lang/ArithmeticException" "/ by zero") :
    W p l e R s m args below meth c H locs cells slots Q (F0 m pc ls (.long b :: .long a :: rest)) := by
  intro T hT X
  obtain ⟨t, st, q⟩ := k T hT X
  exact ⟨t, X.lremZero hexec (g := F0 m pc ls (.long b :: .long a :: rest)) rfl (a := a) (rest := rest) (by rw [h0]) (by rw [hb]; exact d) t st, q⟩
theorem vx_ialdZ {D : va_G} {cl : List vw_C} {ws : va_W} {tys : List (ClassId × FieldType)} {a : Nat} (hexec : p.tables.exec = Jvm.exec) (hb : c.code = cc) (hK : va_K D cl tys s) (hP : va_P D cl ws H) (q0 t0 : Nat) {cA : ClassId} {n : Nat} {f : Nat → Int32} (ha : ws[q0]? = some (a, .inl (cA, n, .inl f))) (ht : tys[t0]? = some (cA, .int)) {i : Int32} (hout : ¬ vp_in i n) (hdg : decode cc pc = .ok (.iaload, 1))
    (k : ∀ tx : String, tx = (toString "Index " ++ toString i ++ toString " out of bounds for length " ++ toString n : String) → vx_Note p l e R s m args below meth c H locs cells slots Q (F0 m pc ls rest) "java/lang/ArrayIndexOutOfBoundsException" tx) : W p l e R s m args below meth c H locs cells slots Q (F0 m pc ls (.int i :: .ref a :: rest)) := by
  intro T hT X
  obtain ⟨t, st, q⟩ := k _ rfl T hT X
  refine ⟨t, ?_, q⟩
  have h1 := X.ialoadOut hexec (by rw [hT]; exact hP q0 _ ha) ((hK.2 t0 _ ht).1 n (fun j => .int (f j))) (j := i) (by show (i < 0 ∨ (arrV _ _ _).slots.size ≤ _); rw [arrV_size]; exact Classical.byContradiction hout) (g := F0 m pc ls (.int i :: .ref a :: rest)) rfl (rest := rest) rfl (by rw [hb]; exact hdg) t
  simp only [arrV_size] at h1
  exact h1 st
theorem vx_iastZ {D : va_G} {cl : List vw_C} {ws : va_W} {tys : List (ClassId × FieldType)} {a : Nat} (hexec : p.tables.exec = Jvm.exec) (hb : c.code = cc) (hK : va_K D cl tys s) (hP : va_P D cl ws H) (q0 t0 : Nat) {cA : ClassId} {n : Nat} {f : Nat → Int32} (ha : ws[q0]? = some (a, .inl (cA, n, .inl f))) (ht : tys[t0]? = some (cA, .int)) {i : Int32} {x : Int32} (hout : ¬ vp_in i n) (hdg : decode cc pc = .ok (.iastore, 1))
    (k : ∀ tx : String, tx = (toString "Index " ++ toString i ++ toString " out of bounds for length " ++ toString n : String) → vx_Note p l e R s m args below meth c H locs cells slots Q (F0 m pc ls rest) "java/lang/ArrayIndexOutOfBoundsException" tx) : W p l e R s m args below meth c H locs cells slots Q (F0 m pc ls (.int x :: .int i :: .ref a :: rest)) := by
  intro T hT X
  obtain ⟨t, st, q⟩ := k _ rfl T hT X
  refine ⟨t, ?_, q⟩
  have h1 := X.iastoreOut hexec (by rw [hT]; exact hP q0 _ ha) ((hK.2 t0 _ ht).1 n (fun j => .int (f j))) (j := i) (by show (i < 0 ∨ (arrV _ _ _).slots.size ≤ _); rw [arrV_size]; exact Classical.byContradiction hout) (g := F0 m pc ls (.int x :: .int i :: .ref a :: rest)) rfl (rest := rest) rfl (by rw [hb]; exact hdg) t
  simp only [arrV_size] at h1
  exact h1 st
theorem vx_baldZ {D : va_G} {cl : List vw_C} {ws : va_W} {tys : List (ClassId × FieldType)} {a : Nat} (hexec : p.tables.exec = Jvm.exec) (hb : c.code = cc) (hK : va_K D cl tys s) (hP : va_P D cl ws H) (q0 t0 : Nat) {cA : ClassId} {n : Nat} {f : Nat → Int32} (ha : ws[q0]? = some (a, .inl (cA, n, .inl f))) (ht : tys[t0]? = some (cA, .byte)) {i : Int32} (hout : ¬ vp_in i n) (hdg : decode cc pc = .ok (.baload, 1))
    (k : ∀ tx : String, tx = (toString "Index " ++ toString i ++ toString " out of bounds for length " ++ toString n : String) → vx_Note p l e R s m args below meth c H locs cells slots Q (F0 m pc ls rest) "java/lang/ArrayIndexOutOfBoundsException" tx) : W p l e R s m args below meth c H locs cells slots Q (F0 m pc ls (.int i :: .ref a :: rest)) := by
  intro T hT X
  obtain ⟨t, st, q⟩ := k _ rfl T hT X
  refine ⟨t, ?_, q⟩
  have h1 := X.baloadOut hexec (by rw [hT]; exact hP q0 _ ha) ((hK.2 t0 _ ht).1 n (fun j => .int (f j))) (j := i) (by show (i < 0 ∨ (arrV _ _ _).slots.size ≤ _); rw [arrV_size]; exact Classical.byContradiction hout) (g := F0 m pc ls (.int i :: .ref a :: rest)) rfl (rest := rest) rfl (by rw [hb]; exact hdg) t
  simp only [arrV_size] at h1
  exact h1 st
theorem vx_bastZ {D : va_G} {cl : List vw_C} {ws : va_W} {tys : List (ClassId × FieldType)} {a : Nat} (hexec : p.tables.exec = Jvm.exec) (hb : c.code = cc) (hK : va_K D cl tys s) (hP : va_P D cl ws H) (q0 t0 : Nat) {cA : ClassId} {n : Nat} {f : Nat → Int32} (ha : ws[q0]? = some (a, .inl (cA, n, .inl f))) (ht : tys[t0]? = some (cA, .byte)) {i : Int32} {x : Int32} (hout : ¬ vp_in i n) (hdg : decode cc pc = .ok (.bastore, 1))
    (k : ∀ tx : String, tx = (toString "Index " ++ toString i ++ toString " out of bounds for length " ++ toString n : String) → vx_Note p l e R s m args below meth c H locs cells slots Q (F0 m pc ls rest) "java/lang/ArrayIndexOutOfBoundsException" tx) : W p l e R s m args below meth c H locs cells slots Q (F0 m pc ls (.int x :: .int i :: .ref a :: rest)) := by
  intro T hT X
  obtain ⟨t, st, q⟩ := k _ rfl T hT X
  refine ⟨t, ?_, q⟩
  have h1 := X.bastoreOut hexec (by rw [hT]; exact hP q0 _ ha) ((hK.2 t0 _ ht).1 n (fun j => .int (f j))) (j := i) (by show (i < 0 ∨ (arrV _ _ _).slots.size ≤ _); rw [arrV_size]; exact Classical.byContradiction hout) (g := F0 m pc ls (.int x :: .int i :: .ref a :: rest)) rfl (rest := rest) rfl (by rw [hb]; exact hdg) t
  simp only [arrV_size] at h1
  exact h1 st
theorem vx_zaldZ {D : va_G} {cl : List vw_C} {ws : va_W} {tys : List (ClassId × FieldType)} {a : Nat} (hexec : p.tables.exec = Jvm.exec) (hb : c.code = cc) (hK : va_K D cl tys s) (hP : va_P D cl ws H) (q0 t0 : Nat) {cA : ClassId} {n : Nat} {f : Nat → Int32} (ha : ws[q0]? = some (a, .inl (cA, n, .inl f))) (ht : tys[t0]? = some (cA, .boolean)) {i : Int32} (hout : ¬ vp_in i n) (hdg : decode cc pc = .ok (.baload, 1))
    (k : ∀ tx : String, tx = (toString "Index " ++ toString i ++ toString " out of bounds for length " ++ toString n : String) → vx_Note p l e R s m args below meth c H locs cells slots Q (F0 m pc ls rest) "java/lang/ArrayIndexOutOfBoundsException" tx) : W p l e R s m args below meth c H locs cells slots Q (F0 m pc ls (.int i :: .ref a :: rest)) := by
  intro T hT X
  obtain ⟨t, st, q⟩ := k _ rfl T hT X
  refine ⟨t, ?_, q⟩
  have h1 := X.baloadOut hexec (by rw [hT]; exact hP q0 _ ha) ((hK.2 t0 _ ht).1 n (fun j => .int (f j))) (j := i) (by show (i < 0 ∨ (arrV _ _ _).slots.size ≤ _); rw [arrV_size]; exact Classical.byContradiction hout) (g := F0 m pc ls (.int i :: .ref a :: rest)) rfl (rest := rest) rfl (by rw [hb]; exact hdg) t
  simp only [arrV_size] at h1
  exact h1 st
theorem vx_zastZ {D : va_G} {cl : List vw_C} {ws : va_W} {tys : List (ClassId × FieldType)} {a : Nat} (hexec : p.tables.exec = Jvm.exec) (hb : c.code = cc) (hK : va_K D cl tys s) (hP : va_P D cl ws H) (q0 t0 : Nat) {cA : ClassId} {n : Nat} {f : Nat → Int32} (ha : ws[q0]? = some (a, .inl (cA, n, .inl f))) (ht : tys[t0]? = some (cA, .boolean)) {i : Int32} {x : Int32} (hout : ¬ vp_in i n) (hdg : decode cc pc = .ok (.bastore, 1))
    (k : ∀ tx : String, tx = (toString "Index " ++ toString i ++ toString " out of bounds for length " ++ toString n : String) → vx_Note p l e R s m args below meth c H locs cells slots Q (F0 m pc ls rest) "java/lang/ArrayIndexOutOfBoundsException" tx) : W p l e R s m args below meth c H locs cells slots Q (F0 m pc ls (.int x :: .int i :: .ref a :: rest)) := by
  intro T hT X
  obtain ⟨t, st, q⟩ := k _ rfl T hT X
  refine ⟨t, ?_, q⟩
  have h1 := X.bastoreOut hexec (by rw [hT]; exact hP q0 _ ha) ((hK.2 t0 _ ht).1 n (fun j => .int (f j))) (j := i) (by show (i < 0 ∨ (arrV _ _ _).slots.size ≤ _); rw [arrV_size]; exact Classical.byContradiction hout) (g := F0 m pc ls (.int x :: .int i :: .ref a :: rest)) rfl (rest := rest) rfl (by rw [hb]; exact hdg) t
  simp only [arrV_size] at h1
  exact h1 st
theorem vx_caldZ {D : va_G} {cl : List vw_C} {ws : va_W} {tys : List (ClassId × FieldType)} {a : Nat} (hexec : p.tables.exec = Jvm.exec) (hb : c.code = cc) (hK : va_K D cl tys s) (hP : va_P D cl ws H) (q0 t0 : Nat) {cA : ClassId} {n : Nat} {f : Nat → Int32} (ha : ws[q0]? = some (a, .inl (cA, n, .inl f))) (ht : tys[t0]? = some (cA, .char)) {i : Int32} (hout : ¬ vp_in i n) (hdg : decode cc pc = .ok (.caload, 1))
    (k : ∀ tx : String, tx = (toString "Index " ++ toString i ++ toString " out of bounds for length " ++ toString n : String) → vx_Note p l e R s m args below meth c H locs cells slots Q (F0 m pc ls rest) "java/lang/ArrayIndexOutOfBoundsException" tx) : W p l e R s m args below meth c H locs cells slots Q (F0 m pc ls (.int i :: .ref a :: rest)) := by
  intro T hT X
  obtain ⟨t, st, q⟩ := k _ rfl T hT X
  refine ⟨t, ?_, q⟩
  have h1 := X.caloadOut hexec (by rw [hT]; exact hP q0 _ ha) ((hK.2 t0 _ ht).1 n (fun j => .int (f j))) (j := i) (by show (i < 0 ∨ (arrV _ _ _).slots.size ≤ _); rw [arrV_size]; exact Classical.byContradiction hout) (g := F0 m pc ls (.int i :: .ref a :: rest)) rfl (rest := rest) rfl (by rw [hb]; exact hdg) t
  simp only [arrV_size] at h1
  exact h1 st
theorem vx_castZ {D : va_G} {cl : List vw_C} {ws : va_W} {tys : List (ClassId × FieldType)} {a : Nat} (hexec : p.tables.exec = Jvm.exec) (hb : c.code = cc) (hK : va_K D cl tys s) (hP : va_P D cl ws H) (q0 t0 : Nat) {cA : ClassId} {n : Nat} {f : Nat → Int32} (ha : ws[q0]? = some (a, .inl (cA, n, .inl f))) (ht : tys[t0]? = some (cA, .char)) {i : Int32} {x : Int32} (hout : ¬ vp_in i n) (hdg : decode cc pc = .ok (.castore, 1))
    (k : ∀ tx : String, tx = (toString "Index " ++ toString i ++ toString " out of bounds for length " ++ toString n : String) → vx_Note p l e R s m args below meth c H locs cells slots Q (F0 m pc ls rest) "java/lang/ArrayIndexOutOfBoundsException" tx) : W p l e R s m args below meth c H locs cells slots Q (F0 m pc ls (.int x :: .int i :: .ref a :: rest)) := by
  intro T hT X
  obtain ⟨t, st, q⟩ := k _ rfl T hT X
  refine ⟨t, ?_, q⟩
  have h1 := X.castoreOut hexec (by rw [hT]; exact hP q0 _ ha) ((hK.2 t0 _ ht).1 n (fun j => .int (f j))) (j := i) (by show (i < 0 ∨ (arrV _ _ _).slots.size ≤ _); rw [arrV_size]; exact Classical.byContradiction hout) (g := F0 m pc ls (.int x :: .int i :: .ref a :: rest)) rfl (rest := rest) rfl (by rw [hb]; exact hdg) t
  simp only [arrV_size] at h1
  exact h1 st
theorem vx_saldZ {D : va_G} {cl : List vw_C} {ws : va_W} {tys : List (ClassId × FieldType)} {a : Nat} (hexec : p.tables.exec = Jvm.exec) (hb : c.code = cc) (hK : va_K D cl tys s) (hP : va_P D cl ws H) (q0 t0 : Nat) {cA : ClassId} {n : Nat} {f : Nat → Int32} (ha : ws[q0]? = some (a, .inl (cA, n, .inl f))) (ht : tys[t0]? = some (cA, .short)) {i : Int32} (hout : ¬ vp_in i n) (hdg : decode cc pc = .ok (.saload, 1))
    (k : ∀ tx : String, tx = (toString "Index " ++ toString i ++ toString " out of bounds for length " ++ toString n : String) → vx_Note p l e R s m args below meth c H locs cells slots Q (F0 m pc ls rest) "java/lang/ArrayIndexOutOfBoundsException" tx) : W p l e R s m args below meth c H locs cells slots Q (F0 m pc ls (.int i :: .ref a :: rest)) := by
  intro T hT X
  obtain ⟨t, st, q⟩ := k _ rfl T hT X
  refine ⟨t, ?_, q⟩
  have h1 := X.saloadOut hexec (by rw [hT]; exact hP q0 _ ha) ((hK.2 t0 _ ht).1 n (fun j => .int (f j))) (j := i) (by show (i < 0 ∨ (arrV _ _ _).slots.size ≤ _); rw [arrV_size]; exact Classical.byContradiction hout) (g := F0 m pc ls (.int i :: .ref a :: rest)) rfl (rest := rest) rfl (by rw [hb]; exact hdg) t
  simp only [arrV_size] at h1
  exact h1 st
theorem vx_sastZ {D : va_G} {cl : List vw_C} {ws : va_W} {tys : List (ClassId × FieldType)} {a : Nat} (hexec : p.tables.exec = Jvm.exec) (hb : c.code = cc) (hK : va_K D cl tys s) (hP : va_P D cl ws H) (q0 t0 : Nat) {cA : ClassId} {n : Nat} {f : Nat → Int32} (ha : ws[q0]? = some (a, .inl (cA, n, .inl f))) (ht : tys[t0]? = some (cA, .short)) {i : Int32} {x : Int32} (hout : ¬ vp_in i n) (hdg : decode cc pc = .ok (.sastore, 1))
    (k : ∀ tx : String, tx = (toString "Index " ++ toString i ++ toString " out of bounds for length " ++ toString n : String) → vx_Note p l e R s m args below meth c H locs cells slots Q (F0 m pc ls rest) "java/lang/ArrayIndexOutOfBoundsException" tx) : W p l e R s m args below meth c H locs cells slots Q (F0 m pc ls (.int x :: .int i :: .ref a :: rest)) := by
  intro T hT X
  obtain ⟨t, st, q⟩ := k _ rfl T hT X
  refine ⟨t, ?_, q⟩
  have h1 := X.sastoreOut hexec (by rw [hT]; exact hP q0 _ ha) ((hK.2 t0 _ ht).1 n (fun j => .int (f j))) (j := i) (by show (i < 0 ∨ (arrV _ _ _).slots.size ≤ _); rw [arrV_size]; exact Classical.byContradiction hout) (g := F0 m pc ls (.int x :: .int i :: .ref a :: rest)) rfl (rest := rest) rfl (by rw [hb]; exact hdg) t
  simp only [arrV_size] at h1
  exact h1 st
theorem vx_laldZ {D : va_G} {cl : List vw_C} {ws : va_W} {tys : List (ClassId × FieldType)} {a : Nat} (hexec : p.tables.exec = Jvm.exec) (hb : c.code = cc) (hK : va_K D cl tys s) (hP : va_P D cl ws H) (q0 t0 : Nat) {cA : ClassId} {n : Nat} {f : Nat → Int64} (ha : ws[q0]? = some (a, .inl (cA, n, .inr (.inl f)))) (ht : tys[t0]? = some (cA, .long)) {i : Int32} (hout : ¬ vp_in i n) (hdg : decode cc pc = .ok (.laload, 1))
    (k : ∀ tx : String, tx = (toString "Index " ++ toString i ++ toString " out of bounds for length " ++ toString n : String) → vx_Note p l e R s m args below meth c H locs cells slots Q (F0 m pc ls rest) "java/lang/ArrayIndexOutOfBoundsException" tx) : W p l e R s m args below meth c H locs cells slots Q (F0 m pc ls (.int i :: .ref a :: rest)) := by
  intro T hT X
  obtain ⟨t, st, q⟩ := k _ rfl T hT X
  refine ⟨t, ?_, q⟩
  have h1 := X.laloadOut hexec (by rw [hT]; exact hP q0 _ ha) ((hK.2 t0 _ ht).1 n (fun j => .long (f j))) (j := i) (by show (i < 0 ∨ (arrV _ _ _).slots.size ≤ _); rw [arrV_size]; exact Classical.byContradiction hout) (g := F0 m pc ls (.int i :: .ref a :: rest)) rfl (rest := rest) rfl (by rw [hb]; exact hdg) t
  simp only [arrV_size] at h1
  exact h1 st
theorem vx_lastZ {D : va_G} {cl : List vw_C} {ws : va_W} {tys : List (ClassId × FieldType)} {a : Nat} (hexec : p.tables.exec = Jvm.exec) (hb : c.code = cc) (hK : va_K D cl tys s) (hP : va_P D cl ws H) (q0 t0 : Nat) {cA : ClassId} {n : Nat} {f : Nat → Int64} (ha : ws[q0]? = some (a, .inl (cA, n, .inr (.inl f)))) (ht : tys[t0]? = some (cA, .long)) {i : Int32} {x : Int64} (hout : ¬ vp_in i n) (hdg : decode cc pc = .ok (.lastore, 1))
    (k : ∀ tx : String, tx = (toString "Index " ++ toString i ++ toString " out of bounds for length " ++ toString n : String) → vx_Note p l e R s m args below meth c H locs cells slots Q (F0 m pc ls rest) "java/lang/ArrayIndexOutOfBoundsException" tx) : W p l e R s m args below meth c H locs cells slots Q (F0 m pc ls (.long x :: .int i :: .ref a :: rest)) := by
  intro T hT X
  obtain ⟨t, st, q⟩ := k _ rfl T hT X
  refine ⟨t, ?_, q⟩
  have h1 := X.lastoreOut hexec (by rw [hT]; exact hP q0 _ ha) ((hK.2 t0 _ ht).1 n (fun j => .long (f j))) (j := i) (by show (i < 0 ∨ (arrV _ _ _).slots.size ≤ _); rw [arrV_size]; exact Classical.byContradiction hout) (g := F0 m pc ls (.long x :: .int i :: .ref a :: rest)) rfl (rest := rest) rfl (by rw [hb]; exact hdg) t
  simp only [arrV_size] at h1
  exact h1 st
theorem vx_faldZ {D : va_G} {cl : List vw_C} {ws : va_W} {tys : List (ClassId × FieldType)} {a : Nat} (hexec : p.tables.exec = Jvm.exec) (hb : c.code = cc) (hK : va_K D cl tys s) (hP : va_P D cl ws H) (q0 t0 : Nat) {cA : ClassId} {n : Nat} {f : Nat → UInt32} (ha : ws[q0]? = some (a, .inl (cA, n, .inr (.inr (.inl f))))) (ht : tys[t0]? = some (cA, .float)) {i : Int32} (hout : ¬ vp_in i n) (hdg : decode cc pc = .ok (.faload, 1))
    (k : ∀ tx : String, tx = (toString "Index " ++ toString i ++ toString " out of bounds for length " ++ toString n : String) → vx_Note p l e R s m args below meth c H locs cells slots Q (F0 m pc ls rest) "java/lang/ArrayIndexOutOfBoundsException" tx) : W p l e R s m args below meth c H locs cells slots Q (F0 m pc ls (.int i :: .ref a :: rest)) := by
  intro T hT X
  obtain ⟨t, st, q⟩ := k _ rfl T hT X
  refine ⟨t, ?_, q⟩
  have h1 := X.faloadOut hexec (by rw [hT]; exact hP q0 _ ha) ((hK.2 t0 _ ht).1 n (fun j => .float (f j))) (j := i) (by show (i < 0 ∨ (arrV _ _ _).slots.size ≤ _); rw [arrV_size]; exact Classical.byContradiction hout) (g := F0 m pc ls (.int i :: .ref a :: rest)) rfl (rest := rest) rfl (by rw [hb]; exact hdg) t
  simp only [arrV_size] at h1
  exact h1 st
theorem vx_fastZ {D : va_G} {cl : List vw_C} {ws : va_W} {tys : List (ClassId × FieldType)} {a : Nat} (hexec : p.tables.exec = Jvm.exec) (hb : c.code = cc) (hK : va_K D cl tys s) (hP : va_P D cl ws H) (q0 t0 : Nat) {cA : ClassId} {n : Nat} {f : Nat → UInt32} (ha : ws[q0]? = some (a, .inl (cA, n, .inr (.inr (.inl f))))) (ht : tys[t0]? = some (cA, .float)) {i : Int32} {x : UInt32} (hout : ¬ vp_in i n) (hdg : decode cc pc = .ok (.fastore, 1))
    (k : ∀ tx : String, tx = (toString "Index " ++ toString i ++ toString " out of bounds for length " ++ toString n : String) → vx_Note p l e R s m args below meth c H locs cells slots Q (F0 m pc ls rest) "java/lang/ArrayIndexOutOfBoundsException" tx) : W p l e R s m args below meth c H locs cells slots Q (F0 m pc ls (.float x :: .int i :: .ref a :: rest)) := by
  intro T hT X
  obtain ⟨t, st, q⟩ := k _ rfl T hT X
  refine ⟨t, ?_, q⟩
  have h1 := X.fastoreOut hexec (by rw [hT]; exact hP q0 _ ha) ((hK.2 t0 _ ht).1 n (fun j => .float (f j))) (j := i) (by show (i < 0 ∨ (arrV _ _ _).slots.size ≤ _); rw [arrV_size]; exact Classical.byContradiction hout) (g := F0 m pc ls (.float x :: .int i :: .ref a :: rest)) rfl (rest := rest) rfl (by rw [hb]; exact hdg) t
  simp only [arrV_size] at h1
  exact h1 st
theorem vx_daldZ {D : va_G} {cl : List vw_C} {ws : va_W} {tys : List (ClassId × FieldType)} {a : Nat} (hexec : p.tables.exec = Jvm.exec) (hb : c.code = cc) (hK : va_K D cl tys s) (hP : va_P D cl ws H) (q0 t0 : Nat) {cA : ClassId} {n : Nat} {f : Nat → UInt64} (ha : ws[q0]? = some (a, .inl (cA, n, .inr (.inr (.inr (.inl f)))))) (ht : tys[t0]? = some (cA, .double)) {i : Int32} (hout : ¬ vp_in i n) (hdg : decode cc pc = .ok (.daload, 1))
    (k : ∀ tx : String, tx = (toString "Index " ++ toString i ++ toString " out of bounds for length " ++ toString n : String) → vx_Note p l e R s m args below meth c H locs cells slots Q (F0 m pc ls rest) "java/lang/ArrayIndexOutOfBoundsException" tx) : W p l e R s m args below meth c H locs cells slots Q (F0 m pc ls (.int i :: .ref a :: rest)) := by
  intro T hT X
  obtain ⟨t, st, q⟩ := k _ rfl T hT X
  refine ⟨t, ?_, q⟩
  have h1 := X.daloadOut hexec (by rw [hT]; exact hP q0 _ ha) ((hK.2 t0 _ ht).1 n (fun j => .double (f j))) (j := i) (by show (i < 0 ∨ (arrV _ _ _).slots.size ≤ _); rw [arrV_size]; exact Classical.byContradiction hout) (g := F0 m pc ls (.int i :: .ref a :: rest)) rfl (rest := rest) rfl (by rw [hb]; exact hdg) t
  simp only [arrV_size] at h1
  exact h1 st
theorem vx_dastZ {D : va_G} {cl : List vw_C} {ws : va_W} {tys : List (ClassId × FieldType)} {a : Nat} (hexec : p.tables.exec = Jvm.exec) (hb : c.code = cc) (hK : va_K D cl tys s) (hP : va_P D cl ws H) (q0 t0 : Nat) {cA : ClassId} {n : Nat} {f : Nat → UInt64} (ha : ws[q0]? = some (a, .inl (cA, n, .inr (.inr (.inr (.inl f)))))) (ht : tys[t0]? = some (cA, .double)) {i : Int32} {x : UInt64} (hout : ¬ vp_in i n) (hdg : decode cc pc = .ok (.dastore, 1))
    (k : ∀ tx : String, tx = (toString "Index " ++ toString i ++ toString " out of bounds for length " ++ toString n : String) → vx_Note p l e R s m args below meth c H locs cells slots Q (F0 m pc ls rest) "java/lang/ArrayIndexOutOfBoundsException" tx) : W p l e R s m args below meth c H locs cells slots Q (F0 m pc ls (.double x :: .int i :: .ref a :: rest)) := by
  intro T hT X
  obtain ⟨t, st, q⟩ := k _ rfl T hT X
  refine ⟨t, ?_, q⟩
  have h1 := X.dastoreOut hexec (by rw [hT]; exact hP q0 _ ha) ((hK.2 t0 _ ht).1 n (fun j => .double (f j))) (j := i) (by show (i < 0 ∨ (arrV _ _ _).slots.size ≤ _); rw [arrV_size]; exact Classical.byContradiction hout) (g := F0 m pc ls (.double x :: .int i :: .ref a :: rest)) rfl (rest := rest) rfl (by rw [hb]; exact hdg) t
  simp only [arrV_size] at h1
  exact h1 st
theorem vx_arraylengthN (hexec : p.tables.exec = Jvm.exec) (hb : c.code = cc) (hdg : decode cc pc = .ok (.arraylength, 1)) (k : vx_NoteN p l e R s m args below meth c H locs cells slots Q (F0 m pc ls rest)) : W p l e R s m args below meth c H locs cells slots Q (F0 m pc ls (.null :: rest)) := by
  intro T hT X
  obtain ⟨t, st, q⟩ := k T hT X
  exact ⟨t, X.arraylengthNull hexec (g := F0 m pc ls (.null :: rest)) rfl (rest := rest) rfl (by rw [hb]; exact hdg) t st, q⟩
theorem vx_ialoadN (hexec : p.tables.exec = Jvm.exec) (hb : c.code = cc) {i : Int32} (hdg : decode cc pc = .ok (.iaload, 1)) (k : vx_NoteN p l e R s m args below meth c H locs cells slots Q (F0 m pc ls rest)) : W p l e R s m args below meth c H locs cells slots Q (F0 m pc ls (.int i :: .null :: rest)) := by
  intro T hT X
  obtain ⟨t, st, q⟩ := k T hT X
  exact ⟨t, X.ialoadNull hexec (g := F0 m pc ls (.int i :: .null :: rest)) rfl (rest := rest) rfl (by rw [hb]; exact hdg) t st, q⟩
theorem vx_laloadN (hexec : p.tables.exec = Jvm.exec) (hb : c.code = cc) {i : Int32} (hdg : decode cc pc = .ok (.laload, 1)) (k : vx_NoteN p l e R s m args below meth c H locs cells slots Q (F0 m pc ls rest)) : W p l e R s m args below meth c H locs cells slots Q (F0 m pc ls (.int i :: .null :: rest)) := by
  intro T hT X
  obtain ⟨t, st, q⟩ := k T hT X
  exact ⟨t, X.laloadNull hexec (g := F0 m pc ls (.int i :: .null :: rest)) rfl (rest := rest) rfl (by rw [hb]; exact hdg) t st, q⟩
theorem vx_faloadN (hexec : p.tables.exec = Jvm.exec) (hb : c.code = cc) {i : Int32} (hdg : decode cc pc = .ok (.faload, 1)) (k : vx_NoteN p l e R s m args below meth c H locs cells slots Q (F0 m pc ls rest)) : W p l e R s m args below meth c H locs cells slots Q (F0 m pc ls (.int i :: .null :: rest)) := by
  intro T hT X
  obtain ⟨t, st, q⟩ := k T hT X
  exact ⟨t, X.faloadNull hexec (g := F0 m pc ls (.int i :: .null :: rest)) rfl (rest := rest) rfl (by rw [hb]; exact hdg) t st, q⟩
theorem vx_daloadN (hexec : p.tables.exec = Jvm.exec) (hb : c.code = cc) {i : Int32} (hdg : decode cc pc = .ok (.daload, 1)) (k : vx_NoteN p l e R s m args below meth c H locs cells slots Q (F0 m pc ls rest)) : W p l e R s m args below meth c H locs cells slots Q (F0 m pc ls (.int i :: .null :: rest)) := by
  intro T hT X
  obtain ⟨t, st, q⟩ := k T hT X
  exact ⟨t, X.daloadNull hexec (g := F0 m pc ls (.int i :: .null :: rest)) rfl (rest := rest) rfl (by rw [hb]; exact hdg) t st, q⟩
theorem vx_aaloadN (hexec : p.tables.exec = Jvm.exec) (hb : c.code = cc) {i : Int32} (hdg : decode cc pc = .ok (.aaload, 1)) (k : vx_NoteN p l e R s m args below meth c H locs cells slots Q (F0 m pc ls rest)) : W p l e R s m args below meth c H locs cells slots Q (F0 m pc ls (.int i :: .null :: rest)) := by
  intro T hT X
  obtain ⟨t, st, q⟩ := k T hT X
  exact ⟨t, X.aaloadNull hexec (g := F0 m pc ls (.int i :: .null :: rest)) rfl (rest := rest) rfl (by rw [hb]; exact hdg) t st, q⟩
theorem vx_baloadN (hexec : p.tables.exec = Jvm.exec) (hb : c.code = cc) {i : Int32} (hdg : decode cc pc = .ok (.baload, 1)) (k : vx_NoteN p l e R s m args below meth c H locs cells slots Q (F0 m pc ls rest)) : W p l e R s m args below meth c H locs cells slots Q (F0 m pc ls (.int i :: .null :: rest)) := by
  intro T hT X
  obtain ⟨t, st, q⟩ := k T hT X
  exact ⟨t, X.baloadNull hexec (g := F0 m pc ls (.int i :: .null :: rest)) rfl (rest := rest) rfl (by rw [hb]; exact hdg) t st, q⟩
theorem vx_caloadN (hexec : p.tables.exec = Jvm.exec) (hb : c.code = cc) {i : Int32} (hdg : decode cc pc = .ok (.caload, 1)) (k : vx_NoteN p l e R s m args below meth c H locs cells slots Q (F0 m pc ls rest)) : W p l e R s m args below meth c H locs cells slots Q (F0 m pc ls (.int i :: .null :: rest)) := by
  intro T hT X
  obtain ⟨t, st, q⟩ := k T hT X
  exact ⟨t, X.caloadNull hexec (g := F0 m pc ls (.int i :: .null :: rest)) rfl (rest := rest) rfl (by rw [hb]; exact hdg) t st, q⟩
theorem vx_saloadN (hexec : p.tables.exec = Jvm.exec) (hb : c.code = cc) {i : Int32} (hdg : decode cc pc = .ok (.saload, 1)) (k : vx_NoteN p l e R s m args below meth c H locs cells slots Q (F0 m pc ls rest)) : W p l e R s m args below meth c H locs cells slots Q (F0 m pc ls (.int i :: .null :: rest)) := by
  intro T hT X
  obtain ⟨t, st, q⟩ := k T hT X
  exact ⟨t, X.saloadNull hexec (g := F0 m pc ls (.int i :: .null :: rest)) rfl (rest := rest) rfl (by rw [hb]; exact hdg) t st, q⟩
theorem vx_iastoreN (hexec : p.tables.exec = Jvm.exec) (hb : c.code = cc) {x : Int32} {i : Int32} (hdg : decode cc pc = .ok (.iastore, 1)) (k : vx_NoteN p l e R s m args below meth c H locs cells slots Q (F0 m pc ls rest)) : W p l e R s m args below meth c H locs cells slots Q (F0 m pc ls (.int x :: .int i :: .null :: rest)) := by
  intro T hT X
  obtain ⟨t, st, q⟩ := k T hT X
  exact ⟨t, X.iastoreNull hexec (g := F0 m pc ls (.int x :: .int i :: .null :: rest)) rfl (rest := rest) rfl (by rw [hb]; exact hdg) t st, q⟩
theorem vx_lastoreN (hexec : p.tables.exec = Jvm.exec) (hb : c.code = cc) {x : Int64} {i : Int32} (hdg : decode cc pc = .ok (.lastore, 1)) (k : vx_NoteN p l e R s m args below meth c H locs cells slots Q (F0 m pc ls rest)) : W p l e R s m args below meth c H locs cells slots Q (F0 m pc ls (.long x :: .int i :: .null :: rest)) := by
  intro T hT X
  obtain ⟨t, st, q⟩ := k T hT X
  exact ⟨t, X.lastoreNull hexec (g := F0 m pc ls (.long x :: .int i :: .null :: rest)) rfl (rest := rest) rfl (by rw [hb]; exact hdg) t st, q⟩
theorem vx_fastoreN (hexec : p.tables.exec = Jvm.exec) (hb : c.code = cc) {x : UInt32} {i : Int32} (hdg : decode cc pc = .ok (.fastore, 1)) (k : vx_NoteN p l e R s m args below meth c H locs cells slots Q (F0 m pc ls rest)) : W p l e R s m args below meth c H locs cells slots Q (F0 m pc ls (.float x :: .int i :: .null :: rest)) := by
  intro T hT X
  obtain ⟨t, st, q⟩ := k T hT X
  exact ⟨t, X.fastoreNull hexec (g := F0 m pc ls (.float x :: .int i :: .null :: rest)) rfl (rest := rest) rfl (by rw [hb]; exact hdg) t st, q⟩
theorem vx_dastoreN (hexec : p.tables.exec = Jvm.exec) (hb : c.code = cc) {x : UInt64} {i : Int32} (hdg : decode cc pc = .ok (.dastore, 1)) (k : vx_NoteN p l e R s m args below meth c H locs cells slots Q (F0 m pc ls rest)) : W p l e R s m args below meth c H locs cells slots Q (F0 m pc ls (.double x :: .int i :: .null :: rest)) := by
  intro T hT X
  obtain ⟨t, st, q⟩ := k T hT X
  exact ⟨t, X.dastoreNull hexec (g := F0 m pc ls (.double x :: .int i :: .null :: rest)) rfl (rest := rest) rfl (by rw [hb]; exact hdg) t st, q⟩
theorem vx_bastoreN (hexec : p.tables.exec = Jvm.exec) (hb : c.code = cc) {x : Int32} {i : Int32} (hdg : decode cc pc = .ok (.bastore, 1)) (k : vx_NoteN p l e R s m args below meth c H locs cells slots Q (F0 m pc ls rest)) : W p l e R s m args below meth c H locs cells slots Q (F0 m pc ls (.int x :: .int i :: .null :: rest)) := by
  intro T hT X
  obtain ⟨t, st, q⟩ := k T hT X
  exact ⟨t, X.bastoreNull hexec (g := F0 m pc ls (.int x :: .int i :: .null :: rest)) rfl (rest := rest) rfl (by rw [hb]; exact hdg) t st, q⟩
theorem vx_castoreN (hexec : p.tables.exec = Jvm.exec) (hb : c.code = cc) {x : Int32} {i : Int32} (hdg : decode cc pc = .ok (.castore, 1)) (k : vx_NoteN p l e R s m args below meth c H locs cells slots Q (F0 m pc ls rest)) : W p l e R s m args below meth c H locs cells slots Q (F0 m pc ls (.int x :: .int i :: .null :: rest)) := by
  intro T hT X
  obtain ⟨t, st, q⟩ := k T hT X
  exact ⟨t, X.castoreNull hexec (g := F0 m pc ls (.int x :: .int i :: .null :: rest)) rfl (rest := rest) rfl (by rw [hb]; exact hdg) t st, q⟩
theorem vx_sastoreN (hexec : p.tables.exec = Jvm.exec) (hb : c.code = cc) {x : Int32} {i : Int32} (hdg : decode cc pc = .ok (.sastore, 1)) (k : vx_NoteN p l e R s m args below meth c H locs cells slots Q (F0 m pc ls rest)) : W p l e R s m args below meth c H locs cells slots Q (F0 m pc ls (.int x :: .int i :: .null :: rest)) := by
  intro T hT X
  obtain ⟨t, st, q⟩ := k T hT X
  exact ⟨t, X.sastoreNull hexec (g := F0 m pc ls (.int x :: .int i :: .null :: rest)) rfl (rest := rest) rfl (by rw [hb]; exact hdg) t st, q⟩
theorem vx_invokeN {own C : String} {index maxL : Nat} {y : MethodName} {bytes : ByteArray} {ret : Option FieldType} (hexec : p.tables.exec = Jvm.exec) (hb : c.code = cc) (hown : s.vm.findClass own = some m.cls) (hlink : (Cond.methodLink own index y).before args s = true) (hinst : (Cond.instanceMethod y).before args s = true) (hcode : (Cond.code y bytes maxL ret).before args s = true) (hsel : (Cond.selects C y y).before args s = true)
    (hx : y.cls ≠ "java/lang/invoke/MethodHandle" ∧ y.cls ≠ "java/lang/invoke/VarHandle") {As : List Value} (hlen : (parseMethodDescriptor y.desc).map (fun d => d.parameters.length) = some As.length) (hdg : decode cc pc = .ok (.invokevirtual index, 3))
    (k : vx_NoteN p l e R s m args below meth c H locs cells slots Q (F0 m pc ls rest)) {st0 : List Value} (hst : st0 = As.reverse ++ .null :: rest) : W p l e R s m args below meth c H locs cells slots Q (F0 m pc ls st0) := by
  intro T hT X
  obtain ⟨r0, r, hn, hrm, hstR, hsigR⟩ := va_Decl.of hinst hcode
  obtain ⟨c2, r2, m2, q1, q2, q3, q4, kP, hkP, hkPi⟩ := Cond.selects_spec hsel
  cases hn.symm.trans q3
  have hl9 : As.length = r.sig.parameters.length := by
    rw [hsigR] at hlen
    exact (Option.some.inj hlen).symm
  obtain ⟨vm', X1, st1⟩ := X.invokevirtualNull hexec hown hlink hn hrm hstR hkP hkPi hx (g := F0 m pc ls st0) rfl (argsL := As) (rest := rest) hl9 hst (by rw [hb]; exact hdg)
  obtain ⟨t, st, q⟩ := k (T.setVm vm') hT X1
  exact ⟨t, st1 t st, q⟩
theorem vx_newarrayZ {atype : ArrayType} (hexec : p.tables.exec = Jvm.exec) (hb : c.code = cc) {n : Int32} (h0 : n < 0) (hdg : decode cc pc = .ok (.newarray atype, 2)) (k : ∀ tx : String, tx = toString n → vx_Note p l e R s m args below meth c H locs cells slots Q (F0 m pc ls rest) "java/lang/NegativeArraySizeException" tx) : W p l e R s m args below meth c H locs cells slots Q (F0 m pc ls (.int n :: rest)) := by
  intro T hT X
  obtain ⟨t, st, q⟩ := k _ rfl T hT X
  exact ⟨t, X.newarrayNegative hexec (g := F0 m pc ls (.int n :: rest)) rfl h0 (rest := rest) rfl (by rw [hb]; exact hdg) t st, q⟩
end
end VXM
/-! ===== END ===== -/
end
section
/-! ===== BEGIN printed: names, fields, word lists, decode rows ===== -/
def RX0 : String := "Foldrose$Fitter"
def TX0 : u_T := fun k => match k with
  | 0 => ("Foldrose$Fitter", "coreOne", "LFoldrose$Graph;", true)
  | 1 => ("Foldrose$Fitter", "coreTwo", "LFoldrose$Graph;", true)
  | 2 => ("Foldrose$Fitter", "laid", "[I", true)
  | _ => ("Foldrose$Fitter", "found", "[I", true)
def tyX0 : Nat → FieldType := fun k => match k with
  | 0 => .object "Foldrose$Graph"
  | 1 => .object "Foldrose$Graph"
  | 2 => .array .int
  | _ => .array .int
abbrev wsX00 : List Cond := u_ws RX0 TX0 4
theorem nmX0 : ∀ a, a < 4 → ∀ b, b < 4 → a ≠ b → (TX0 a).2.1 ≠ (TX0 b).2.1 := by decide +kernel
theorem tyX0_ok : ∀ k, k < 4 → parseFieldDescriptor (TX0 k).2.2.1 = some (tyX0 k) := by decide +kernel
abbrev cX0_init : ByteArray := prog_2_method_1_code
def yX0_init : MethodName := ⟨RX0, "<init>", "()V"⟩
def RX1 : String := "Foldrose$Graph"
def TX1 : u_T := fun k => match k with
  | 0 => ("Foldrose$Graph", "ends", "[I", true)
  | 1 => ("Foldrose$Graph", "treeFrom", "[I", true)
  | 2 => ("Foldrose$Graph", "treeLetter", "[I", true)
  | 3 => ("Foldrose$Graph", "loops", "[I", true)
  | 4 => ("Foldrose$Graph", "back", "LFoldrose$Row;", true)
  | 5 => ("Foldrose$Graph", "size", "I", false)
  | _ => ("Foldrose$Graph", "loopCount", "I", false)
def tyX1 : Nat → FieldType := fun k => match k with
  | 0 => .array .int
  | 1 => .array .int
  | 2 => .array .int
  | 3 => .array .int
  | 4 => .object "Foldrose$Row"
  | 5 => .int
  | _ => .int
abbrev wsX10 : List Cond := u_ws RX1 TX1 7
theorem nmX1 : ∀ a, a < 7 → ∀ b, b < 7 → a ≠ b → (TX1 a).2.1 ≠ (TX1 b).2.1 := by decide +kernel
theorem tyX1_ok : ∀ k, k < 7 → parseFieldDescriptor (TX1 k).2.2.1 = some (tyX1 k) := by decide +kernel
abbrev cX1_init : ByteArray := prog_3_method_1_code
def yX1_init : MethodName := ⟨RX1, "<init>", "()V"⟩
abbrev cX1_step : ByteArray := prog_3_method_2_code
def yX1_step : MethodName := ⟨RX1, "step", "(II)I"⟩
abbrev cX1_walk : ByteArray := prog_3_method_3_code
def yX1_walk : MethodName := ⟨RX1, "walk", "(LFoldrose$Row;)I"⟩
abbrev cX1_edgeCount : ByteArray := prog_3_method_5_code
def yX1_edgeCount : MethodName := ⟨RX1, "edgeCount", "()I"⟩
abbrev cX1_leadsBack : ByteArray := prog_3_method_13_code
def yX1_leadsBack : MethodName := ⟨RX1, "leadsBack", "()Z"⟩
def RX2 : String := "Foldrose$Group"
def TX2 : u_T := fun k => match k with
  | 0 => ("Foldrose$Group", "graph", "LFoldrose$Graph;", false)
  | 1 => ("Foldrose$Group", "generators", "[LFoldrose$Row;", true)
  | _ => ("Foldrose$Group", "generatorCount", "I", false)
def tyX2 : Nat → FieldType := fun k => match k with
  | 0 => .object "Foldrose$Graph"
  | 1 => .array (.object "Foldrose$Row")
  | _ => .int
abbrev wsX20 : List Cond := u_ws RX2 TX2 3
theorem nmX2 : ∀ a, a < 3 → ∀ b, b < 3 → a ≠ b → (TX2 a).2.1 ≠ (TX2 b).2.1 := by decide +kernel
theorem tyX2_ok : ∀ k, k < 3 → parseFieldDescriptor (TX2 k).2.2.1 = some (tyX2 k) := by decide +kernel
abbrev cX2_init : ByteArray := prog_4_method_1_code
def yX2_init : MethodName := ⟨RX2, "<init>", "()V"⟩
abbrev cX2_isConsistent : ByteArray := prog_4_method_4_code
def yX2_isConsistent : MethodName := ⟨RX2, "isConsistent", "()Z"⟩
def RX3 : String := "Foldrose$Images"
def TX3 : u_T := fun k => match k with
  | 0 => ("Foldrose$Images", "rows", "[LFoldrose$Row;", true)
  | 1 => ("Foldrose$Images", "heads", "[I", true)
  | 2 => ("Foldrose$Images", "sizes", "[J", false)
  | _ => ("Foldrose$Images", "grownSizes", "[J", false)
def tyX3 : Nat → FieldType := fun k => match k with
  | 0 => .array (.object "Foldrose$Row")
  | 1 => .array .int
  | 2 => .array .long
  | _ => .array .long
abbrev wsX30 : List Cond := u_ws RX3 TX3 4
theorem nmX3 : ∀ a, a < 4 → ∀ b, b < 4 → a ≠ b → (TX3 a).2.1 ≠ (TX3 b).2.1 := by decide +kernel
theorem tyX3_ok : ∀ k, k < 4 → parseFieldDescriptor (TX3 k).2.2.1 = some (tyX3 k) := by decide +kernel
abbrev cX3_init : ByteArray := prog_5_method_1_code
def yX3_init : MethodName := ⟨RX3, "<init>", "()V"⟩
def RX4 : String := "Foldrose$Inverter"
def TX4 : u_T := fun k => match k with
  | 0 => ("Foldrose$Inverter", "images", "[LFoldrose$Row;", true)
  | 1 => ("Foldrose$Inverter", "origins", "[LFoldrose$Row;", true)
  | 2 => ("Foldrose$Inverter", "image", "LFoldrose$Row;", true)
  | 3 => ("Foldrose$Inverter", "origin", "LFoldrose$Row;", true)
  | _ => ("Foldrose$Inverter", "tooLong", "Z", false)
def tyX4 : Nat → FieldType := fun k => match k with
  | 0 => .array (.object "Foldrose$Row")
  | 1 => .array (.object "Foldrose$Row")
  | 2 => .object "Foldrose$Row"
  | 3 => .object "Foldrose$Row"
  | _ => .boolean
abbrev wsX40 : List Cond := u_ws RX4 TX4 5
theorem nmX4 : ∀ a, a < 5 → ∀ b, b < 5 → a ≠ b → (TX4 a).2.1 ≠ (TX4 b).2.1 := by decide +kernel
theorem tyX4_ok : ∀ k, k < 5 → parseFieldDescriptor (TX4 k).2.2.1 = some (tyX4 k) := by decide +kernel
abbrev cX4_init : ByteArray := prog_6_method_1_code
def yX4_init : MethodName := ⟨RX4, "<init>", "()V"⟩
def RX5 : String := "Foldrose$Net"
def TX5 : u_T := fun k => match k with
  | 0 => ("Foldrose$Net", "ends", "[I", true)
  | 1 => ("Foldrose$Net", "into", "[I", true)
  | 2 => ("Foldrose$Net", "marks", "[I", true)
  | 3 => ("Foldrose$Net", "pairs", "[I", true)
  | 4 => ("Foldrose$Net", "found", "[I", true)
  | 5 => ("Foldrose$Net", "waitingOnes", "[I", true)
  | 6 => ("Foldrose$Net", "waitingOthers", "[I", true)
  | 7 => ("Foldrose$Net", "waiting", "I", false)
  | _ => ("Foldrose$Net", "size", "I", false)
def tyX5 : Nat → FieldType := fun k => match k with
  | 0 => .array .int
  | 1 => .array .int
  | 2 => .array .int
  | 3 => .array .int
  | 4 => .array .int
  | 5 => .array .int
  | 6 => .array .int
  | 7 => .int
  | _ => .int
abbrev wsX50 : List Cond := u_ws RX5 TX5 9
theorem nmX5 : ∀ a, a < 9 → ∀ b, b < 9 → a ≠ b → (TX5 a).2.1 ≠ (TX5 b).2.1 := by decide +kernel
theorem tyX5_ok : ∀ k, k < 9 → parseFieldDescriptor (TX5 k).2.2.1 = some (tyX5 k) := by decide +kernel
abbrev cX5_init : ByteArray := prog_7_method_1_code
def yX5_init : MethodName := ⟨RX5, "<init>", "()V"⟩
def RX6 : String := "Foldrose$Paths"
def TX6 : u_T := fun k => match k with
  | 0 => ("Foldrose$Paths", "ways", "[J", false)
  | _ => ("Foldrose$Paths", "longer", "[J", false)
def tyX6 : Nat → FieldType := fun k => match k with
  | 0 => .array .long
  | _ => .array .long
abbrev wsX60 : List Cond := u_ws RX6 TX6 2
theorem nmX6 : ∀ a, a < 2 → ∀ b, b < 2 → a ≠ b → (TX6 a).2.1 ≠ (TX6 b).2.1 := by decide +kernel
theorem tyX6_ok : ∀ k, k < 2 → parseFieldDescriptor (TX6 k).2.2.1 = some (tyX6 k) := by decide +kernel
abbrev cX6_init : ByteArray := prog_8_method_1_code
def yX6_init : MethodName := ⟨RX6, "<init>", "()V"⟩
def RX7 : String := "Foldrose$Row"
def TX7 : u_T := fun k => match k with
  | 0 => ("Foldrose$Row", "letters", "[B", true)
  | _ => ("Foldrose$Row", "size", "I", false)
def tyX7 : Nat → FieldType := fun k => match k with
  | 0 => .array .byte
  | _ => .int
abbrev wsX70 : List Cond := u_ws RX7 TX7 2
theorem nmX7 : ∀ a, a < 2 → ∀ b, b < 2 → a ≠ b → (TX7 a).2.1 ≠ (TX7 b).2.1 := by decide +kernel
theorem tyX7_ok : ∀ k, k < 2 → parseFieldDescriptor (TX7 k).2.2.1 = some (tyX7 k) := by decide +kernel
abbrev cX7_init : ByteArray := prog_9_method_1_code
def yX7_init : MethodName := ⟨RX7, "<init>", "(I)V"⟩
abbrev cX7_clear : ByteArray := prog_9_method_2_code
def yX7_clear : MethodName := ⟨RX7, "clear", "()V"⟩
abbrev cX7_add : ByteArray := prog_9_method_3_code
def yX7_add : MethodName := ⟨RX7, "add", "(I)V"⟩
abbrev cX7_addPart : ByteArray := prog_9_method_4_code
def yX7_addPart : MethodName := ⟨RX7, "addPart", "(LFoldrose$Row;II)V"⟩
abbrev cX7_addPartInverse : ByteArray := prog_9_method_5_code
def yX7_addPartInverse : MethodName := ⟨RX7, "addPartInverse", "(LFoldrose$Row;II)V"⟩
abbrev cX7_addRow : ByteArray := prog_9_method_6_code
def yX7_addRow : MethodName := ⟨RX7, "addRow", "(LFoldrose$Row;)V"⟩
abbrev cX7_addInverse : ByteArray := prog_9_method_7_code
def yX7_addInverse : MethodName := ⟨RX7, "addInverse", "(LFoldrose$Row;)V"⟩
abbrev cX7_set : ByteArray := prog_9_method_8_code
def yX7_set : MethodName := ⟨RX7, "set", "(LFoldrose$Row;)V"⟩
abbrev cX7_orderTo : ByteArray := prog_9_method_9_code
def yX7_orderTo : MethodName := ⟨RX7, "orderTo", "(LFoldrose$Row;)I"⟩
abbrev cX7_sumOf : ByteArray := prog_9_method_10_code
def yX7_sumOf : MethodName := ⟨RX7, "sumOf", "(I)I"⟩
abbrev cX7_isCancelled : ByteArray := prog_9_method_12_code
def yX7_isCancelled : MethodName := ⟨RX7, "isCancelled", "()Z"⟩
abbrev cX7_coreStart : ByteArray := prog_9_method_13_code
def yX7_coreStart : MethodName := ⟨RX7, "coreStart", "()I"⟩
abbrev cX7_coreSize : ByteArray := prog_9_method_14_code
def yX7_coreSize : MethodName := ⟨RX7, "coreSize", "()I"⟩
abbrev cX7_corePeriod : ByteArray := prog_9_method_15_code
def yX7_corePeriod : MethodName := ⟨RX7, "corePeriod", "()I"⟩
abbrev cX7_repeats : ByteArray := prog_9_method_16_code
def yX7_repeats : MethodName := ⟨RX7, "repeats", "(III)Z"⟩
abbrev cX7_turnOfCore : ByteArray := prog_9_method_17_code
def yX7_turnOfCore : MethodName := ⟨RX7, "turnOfCore", "(LFoldrose$Row;)I"⟩
abbrev cX7_isTurned : ByteArray := prog_9_method_18_code
def yX7_isTurned : MethodName := ⟨RX7, "isTurned", "(ILFoldrose$Row;III)Z"⟩
def RX8 : String := "Foldrose$Shortener"
def TX8 : u_T := fun k => match k with
  | 0 => ("Foldrose$Shortener", "moved", "LFoldrose$Row;", true)
  | 1 => ("Foldrose$Shortener", "turned", "LFoldrose$Row;", true)
  | 2 => ("Foldrose$Shortener", "turns", "[I", true)
  | 3 => ("Foldrose$Shortener", "bestLetter", "I", false)
  | 4 => ("Foldrose$Shortener", "bestBehind", "I", false)
  | _ => ("Foldrose$Shortener", "bestSize", "I", false)
def tyX8 : Nat → FieldType := fun k => match k with
  | 0 => .object "Foldrose$Row"
  | 1 => .object "Foldrose$Row"
  | 2 => .array .int
  | 3 => .int
  | 4 => .int
  | _ => .int
abbrev wsX80 : List Cond := u_ws RX8 TX8 6
theorem nmX8 : ∀ a, a < 6 → ∀ b, b < 6 → a ≠ b → (TX8 a).2.1 ≠ (TX8 b).2.1 := by decide +kernel
theorem tyX8_ok : ∀ k, k < 6 → parseFieldDescriptor (TX8 k).2.2.1 = some (tyX8 k) := by decide +kernel
abbrev cX8_init : ByteArray := prog_10_method_1_code
def yX8_init : MethodName := ⟨RX8, "<init>", "()V"⟩
def RX9 : String := "Foldrose"
def TX9 : u_T := fun k => match k with
  | 0 => ("Foldrose", "typed", "[B", true)
  | 1 => ("Foldrose", "typedCount", "I", false)
  | 2 => ("Foldrose", "words", "[LFoldrose$Row;", true)
  | 3 => ("Foldrose", "wordCount", "I", false)
  | 4 => ("Foldrose", "forms", "[LFoldrose$Row;", true)
  | 5 => ("Foldrose", "formKnown", "[Z", true)
  | 6 => ("Foldrose", "groups", "[LFoldrose$Group;", true)
  | 7 => ("Foldrose", "groupCount", "I", false)
  | 8 => ("Foldrose", "maps", "[LFoldrose$Images;", true)
  | 9 => ("Foldrose", "mapCount", "I", false)
  | 10 => ("Foldrose", "draft", "LFoldrose$Row;", true)
  | 11 => ("Foldrose", "second", "LFoldrose$Row;", true)
  | 12 => ("Foldrose", "spare", "LFoldrose$Graph;", false)
  | 13 => ("Foldrose", "net", "LFoldrose$Net;", true)
  | 14 => ("Foldrose", "fitter", "LFoldrose$Fitter;", true)
  | 15 => ("Foldrose", "paths", "LFoldrose$Paths;", true)
  | 16 => ("Foldrose", "shortener", "LFoldrose$Shortener;", true)
  | _ => ("Foldrose", "inverter", "LFoldrose$Inverter;", true)
def tyX9 : Nat → FieldType := fun k => match k with
  | 0 => .array .byte
  | 1 => .int
  | 2 => .array (.object "Foldrose$Row")
  | 3 => .int
  | 4 => .array (.object "Foldrose$Row")
  | 5 => .array .boolean
  | 6 => .array (.object "Foldrose$Group")
  | 7 => .int
  | 8 => .array (.object "Foldrose$Images")
  | 9 => .int
  | 10 => .object "Foldrose$Row"
  | 11 => .object "Foldrose$Row"
  | 12 => .object "Foldrose$Graph"
  | 13 => .object "Foldrose$Net"
  | 14 => .object "Foldrose$Fitter"
  | 15 => .object "Foldrose$Paths"
  | 16 => .object "Foldrose$Shortener"
  | _ => .object "Foldrose$Inverter"
abbrev wsX90 : List Cond := u_ws RX9 TX9 18
theorem nmX9 : ∀ a, a < 18 → ∀ b, b < 18 → a ≠ b → (TX9 a).2.1 ≠ (TX9 b).2.1 := by decide +kernel
theorem tyX9_ok : ∀ k, k < 18 → parseFieldDescriptor (TX9 k).2.2.1 = some (tyX9 k) := by decide +kernel
abbrev cX9_init : ByteArray := prog_1_method_1_code
def yX9_init : MethodName := ⟨RX9, "<init>", "()V"⟩
abbrev cX9_type : ByteArray := prog_1_method_2_code
def yX9_type : MethodName := ⟨RX9, "type", "(C)I"⟩
abbrev cX9_wipe : ByteArray := prog_1_method_3_code
def yX9_wipe : MethodName := ⟨RX9, "wipe", "()I"⟩
abbrev cX9_word : ByteArray := prog_1_method_4_code
def yX9_word : MethodName := ⟨RX9, "word", "()I"⟩
abbrev cX9_length : ByteArray := prog_1_method_5_code
def yX9_length : MethodName := ⟨RX9, "length", "(I)I"⟩
abbrev cX9_letter : ByteArray := prog_1_method_6_code
def yX9_letter : MethodName := ⟨RX9, "letter", "(II)C"⟩
abbrev cX9_compare : ByteArray := prog_1_method_7_code
def yX9_compare : MethodName := ⟨RX9, "compare", "(II)I"⟩
abbrev cX9_product : ByteArray := prog_1_method_8_code
def yX9_product : MethodName := ⟨RX9, "product", "(II)I"⟩
abbrev cX9_inverse : ByteArray := prog_1_method_9_code
def yX9_inverse : MethodName := ⟨RX9, "inverse", "(I)I"⟩
abbrev cX9_power : ByteArray := prog_1_method_10_code
def yX9_power : MethodName := ⟨RX9, "power", "(II)I"⟩
abbrev cX9_core : ByteArray := prog_1_method_11_code
def yX9_core : MethodName := ⟨RX9, "core", "(I)I"⟩
abbrev cX9_exponent : ByteArray := prog_1_method_12_code
def yX9_exponent : MethodName := ⟨RX9, "exponent", "(I)I"⟩
abbrev cX9_sum : ByteArray := prog_1_method_13_code
def yX9_sum : MethodName := ⟨RX9, "sum", "(IC)I"⟩
abbrev cX9_commute : ByteArray := prog_1_method_14_code
def yX9_commute : MethodName := ⟨RX9, "commute", "(II)Z"⟩
abbrev cX9_conjugator : ByteArray := prog_1_method_15_code
def yX9_conjugator : MethodName := ⟨RX9, "conjugator", "(II)I"⟩
abbrev cX9_setConjugator : ByteArray := prog_1_method_16_code
def yX9_setConjugator : MethodName := ⟨RX9, "setConjugator", "(LFoldrose$Row;LFoldrose$Row;LFoldrose$Row;IZ)V"⟩
abbrev cX9_isSound : ByteArray := prog_1_method_54_code
def yX9_isSound : MethodName := ⟨RX9, "isSound", "()Z"⟩
abbrev cX9_codeOf : ByteArray := prog_1_method_55_code
def yX9_codeOf : MethodName := ⟨RX9, "codeOf", "(C)I"⟩
abbrev cX9_wordAt : ByteArray := prog_1_method_56_code
def yX9_wordAt : MethodName := ⟨RX9, "wordAt", "(I)LFoldrose$Row;"⟩
abbrev cX9_keep : ByteArray := prog_1_method_59_code
def yX9_keep : MethodName := ⟨RX9, "keep", "(LFoldrose$Row;)I"⟩
abbrev cX9_setProduct : ByteArray := prog_1_method_60_code
def yX9_setProduct : MethodName := ⟨RX9, "setProduct", "(LFoldrose$Row;LFoldrose$Row;LFoldrose$Row;)V"⟩
def RX10 : String := "FoldroseModel$Fold"
def TX10 : u_T := fun k => match k with
  | _ => ("", "", "", false)
def tyX10 : Nat → FieldType := fun k => match k with
  | _ => .int
abbrev wsX100 : List Cond := u_ws RX10 TX10 0
theorem nmX10 : ∀ a, a < 0 → ∀ b, b < 0 → a ≠ b → (TX10 a).2.1 ≠ (TX10 b).2.1 := by decide +kernel
theorem tyX10_ok : ∀ k, k < 0 → parseFieldDescriptor (TX10 k).2.2.1 = some (tyX10 k) := by decide +kernel
def RX11 : String := "FoldroseModel"
def TX11 : u_T := fun k => match k with
  | _ => ("", "", "", false)
def tyX11 : Nat → FieldType := fun k => match k with
  | _ => .int
abbrev wsX110 : List Cond := u_ws RX11 TX11 0
theorem nmX11 : ∀ a, a < 0 → ∀ b, b < 0 → a ≠ b → (TX11 a).2.1 ≠ (TX11 b).2.1 := by decide +kernel
theorem tyX11_ok : ∀ k, k < 0 → parseFieldDescriptor (TX11 k).2.2.1 = some (tyX11 k) := by decide +kernel
def RJx145de : String := "java/io/Serializable"
def TJx145de : u_T := fun k => match k with
  | _ => ("", "", "", false)
def tyJx145de : Nat → FieldType := fun k => match k with
  | _ => .int
abbrev wsJx145de0 : List Cond := u_ws RJx145de TJx145de 0
theorem nmJx145de : ∀ a, a < 0 → ∀ b, b < 0 → a ≠ b → (TJx145de a).2.1 ≠ (TJx145de b).2.1 := by decide +kernel
theorem tyJx145de_ok : ∀ k, k < 0 → parseFieldDescriptor (TJx145de k).2.2.1 = some (tyJx145de k) := by decide +kernel
def RJx00060 : String := "java/lang/ArrayIndexOutOfBoundsException"
def TJx00060 : u_T := fun k => match k with
  | 0 => ("java/lang/Throwable", "backtrace", "Ljava/lang/Object;", false)
  | 1 => ("java/lang/Throwable", "detailMessage", "Ljava/lang/String;", false)
  | 2 => ("java/lang/Throwable", "cause", "Ljava/lang/Throwable;", false)
  | 3 => ("java/lang/Throwable", "stackTrace", "[Ljava/lang/StackTraceElement;", false)
  | 4 => ("java/lang/Throwable", "depth", "I", false)
  | _ => ("java/lang/Throwable", "suppressedExceptions", "Ljava/util/List;", false)
def tyJx00060 : Nat → FieldType := fun k => match k with
  | 0 => .object "java/lang/Object"
  | 1 => .object "java/lang/String"
  | 2 => .object "java/lang/Throwable"
  | 3 => .array (.object "java/lang/StackTraceElement")
  | 4 => .int
  | _ => .object "java/util/List"
abbrev wsJx000600 : List Cond := u_ws RJx00060 TJx00060 6
theorem nmJx00060 : ∀ a, a < 6 → ∀ b, b < 6 → a ≠ b → (TJx00060 a).2.1 ≠ (TJx00060 b).2.1 := by decide +kernel
theorem tyJx00060_ok : ∀ k, k < 6 → parseFieldDescriptor (TJx00060 k).2.2.1 = some (tyJx00060 k) := by decide +kernel
abbrev cJx00060_init_a7421 : ByteArray := prog_15_method_2_code
def yJx00060_init_a7421 : MethodName := ⟨RJx00060, "<init>", "(Ljava/lang/String;)V"⟩
def RJx9f9b0 : String := "java/lang/CharSequence"
def TJx9f9b0 : u_T := fun k => match k with
  | _ => ("", "", "", false)
def tyJx9f9b0 : Nat → FieldType := fun k => match k with
  | _ => .int
abbrev wsJx9f9b00 : List Cond := u_ws RJx9f9b0 TJx9f9b0 0
theorem nmJx9f9b0 : ∀ a, a < 0 → ∀ b, b < 0 → a ≠ b → (TJx9f9b0 a).2.1 ≠ (TJx9f9b0 b).2.1 := by decide +kernel
theorem tyJx9f9b0_ok : ∀ k, k < 0 → parseFieldDescriptor (TJx9f9b0 k).2.2.1 = some (tyJx9f9b0 k) := by decide +kernel
def RJxb160c : String := "java/lang/Comparable"
def TJxb160c : u_T := fun k => match k with
  | _ => ("", "", "", false)
def tyJxb160c : Nat → FieldType := fun k => match k with
  | _ => .int
abbrev wsJxb160c0 : List Cond := u_ws RJxb160c TJxb160c 0
theorem nmJxb160c : ∀ a, a < 0 → ∀ b, b < 0 → a ≠ b → (TJxb160c a).2.1 ≠ (TJxb160c b).2.1 := by decide +kernel
theorem tyJxb160c_ok : ∀ k, k < 0 → parseFieldDescriptor (TJxb160c k).2.2.1 = some (tyJxb160c k) := by decide +kernel
def RJ0 : String := "java/lang/String"
def TJ0 : u_T := fun k => match k with
  | 0 => ("java/lang/String", "value", "[B", true)
  | _ => ("java/lang/String", "coder", "B", true)
def tyJ0 : Nat → FieldType := fun k => match k with
  | 0 => .array .byte
  | _ => .byte
abbrev wsJ00 : List Cond := u_ws RJ0 TJ0 2
theorem nmJ0 : ∀ a, a < 2 → ∀ b, b < 2 → a ≠ b → (TJ0 a).2.1 ≠ (TJ0 b).2.1 := by decide +kernel
theorem tyJ0_ok : ∀ k, k < 2 → parseFieldDescriptor (TJ0 k).2.2.1 = some (tyJ0 k) := by decide +kernel
abbrev cJ0_charAt_5068e : ByteArray := prog_23_method_56_code
def yJ0_charAt_5068e : MethodName := ⟨RJ0, "charAt", "(I)C"⟩
abbrev cJ0_isLatin1_aae02 : ByteArray := prog_23_method_154_code
def yJ0_isLatin1_aae02 : MethodName := ⟨RJ0, "isLatin1", "()Z"⟩
abbrev cJ0_checkIndex_df160 : ByteArray := prog_23_method_155_code
def yJ0_checkIndex_df160 : MethodName := ⟨RJ0, "checkIndex", "(II)V"⟩
def RJ1 : String := "java/lang/StringLatin1"
def TJ1 : u_T := fun k => match k with
  | _ => ("", "", "", false)
def tyJ1 : Nat → FieldType := fun k => match k with
  | _ => .int
abbrev wsJ10 : List Cond := u_ws RJ1 TJ1 0
theorem nmJ1 : ∀ a, a < 0 → ∀ b, b < 0 → a ≠ b → (TJ1 a).2.1 ≠ (TJ1 b).2.1 := by decide +kernel
theorem tyJ1_ok : ∀ k, k < 0 → parseFieldDescriptor (TJ1 k).2.2.1 = some (tyJ1 k) := by decide +kernel
abbrev cJ1_charAt_3b067 : ByteArray := prog_24_method_2_code
def yJ1_charAt_3b067 : MethodName := ⟨RJ1, "charAt", "([BI)C"⟩
def RJ2 : String := "java/lang/StringUTF16"
def TJ2 : u_T := fun k => match k with
  | _ => ("", "", "", false)
def tyJ2 : Nat → FieldType := fun k => match k with
  | _ => .int
abbrev wsJ20 : List Cond := u_ws RJ2 TJ2 0
theorem nmJ2 : ∀ a, a < 0 → ∀ b, b < 0 → a ≠ b → (TJ2 a).2.1 ≠ (TJ2 b).2.1 := by decide +kernel
theorem tyJ2_ok : ∀ k, k < 0 → parseFieldDescriptor (TJ2 k).2.2.1 = some (tyJ2 k) := by decide +kernel
abbrev cJ2_getChar_3b067 : ByteArray := prog_25_method_5_code
def yJ2_getChar_3b067 : MethodName := ⟨RJ2, "getChar", "([BI)C"⟩
abbrev cJ2_length_9d52b : ByteArray := prog_25_method_6_code
def yJ2_length_9d52b : MethodName := ⟨RJ2, "length", "([B)I"⟩
abbrev cJ2_charAt_3b067 : ByteArray := prog_25_method_83_code
def yJ2_charAt_3b067 : MethodName := ⟨RJ2, "charAt", "([BI)C"⟩
abbrev cJ2_checkIndex_2214a : ByteArray := prog_25_method_91_code
def yJ2_checkIndex_2214a : MethodName := ⟨RJ2, "checkIndex", "(I[B)V"⟩
def RJxfd54e : String := "java/lang/constant/Constable"
def TJxfd54e : u_T := fun k => match k with
  | _ => ("", "", "", false)
def tyJxfd54e : Nat → FieldType := fun k => match k with
  | _ => .int
abbrev wsJxfd54e0 : List Cond := u_ws RJxfd54e TJxfd54e 0
theorem nmJxfd54e : ∀ a, a < 0 → ∀ b, b < 0 → a ≠ b → (TJxfd54e a).2.1 ≠ (TJxfd54e b).2.1 := by decide +kernel
theorem tyJxfd54e_ok : ∀ k, k < 0 → parseFieldDescriptor (TJxfd54e k).2.2.1 = some (tyJxfd54e k) := by decide +kernel
def RJx3cf43 : String := "java/lang/constant/ConstantDesc"
def TJx3cf43 : u_T := fun k => match k with
  | _ => ("", "", "", false)
def tyJx3cf43 : Nat → FieldType := fun k => match k with
  | _ => .int
abbrev wsJx3cf430 : List Cond := u_ws RJx3cf43 TJx3cf43 0
theorem nmJx3cf43 : ∀ a, a < 0 → ∀ b, b < 0 → a ≠ b → (TJx3cf43 a).2.1 ≠ (TJx3cf43 b).2.1 := by decide +kernel
theorem tyJx3cf43_ok : ∀ k, k < 0 → parseFieldDescriptor (TJx3cf43 k).2.2.1 = some (tyJx3cf43 k) := by decide +kernel
def RJ3 : String := "jdk/internal/util/Preconditions"
def TJ3 : u_T := fun k => match k with
  | _ => ("", "", "", false)
def tyJ3 : Nat → FieldType := fun k => match k with
  | _ => .int
abbrev wsJ30 : List Cond := u_ws RJ3 TJ3 0
theorem nmJ3 : ∀ a, a < 0 → ∀ b, b < 0 → a ≠ b → (TJ3 a).2.1 ≠ (TJ3 b).2.1 := by decide +kernel
theorem tyJ3_ok : ∀ k, k < 0 → parseFieldDescriptor (TJ3 k).2.2.1 = some (tyJ3 k) := by decide +kernel
abbrev cJ3_checkIndex_8e157 : ByteArray := prog_30_method_11_code
def yJ3_checkIndex_8e157 : MethodName := ⟨RJ3, "checkIndex", "(IILjava/util/function/BiFunction;)I"⟩
def RL : String := "FoldroseLaw"
abbrev cL_cell : ByteArray := method_2_code
def yL_cell : MethodName := ⟨RL, "cell", "([II)I"⟩
abbrev cL_type : ByteArray := method_3_code
def yL_type : MethodName := ⟨RL, "type", "(LFoldrose;C)I"⟩
abbrev cL_word : ByteArray := method_4_code
def yL_word : MethodName := ⟨RL, "word", "(LFoldrose;)I"⟩
abbrev cL_length : ByteArray := method_5_code
def yL_length : MethodName := ⟨RL, "length", "(LFoldrose;I)I"⟩
abbrev cL_letter : ByteArray := method_6_code
def yL_letter : MethodName := ⟨RL, "letter", "(LFoldrose;II)I"⟩
abbrev cL_compare : ByteArray := method_7_code
def yL_compare : MethodName := ⟨RL, "compare", "(LFoldrose;II)I"⟩
abbrev cL_product : ByteArray := method_8_code
def yL_product : MethodName := ⟨RL, "product", "(LFoldrose;II)I"⟩
abbrev cL_inverse : ByteArray := method_9_code
def yL_inverse : MethodName := ⟨RL, "inverse", "(LFoldrose;I)I"⟩
abbrev cL_power : ByteArray := method_10_code
def yL_power : MethodName := ⟨RL, "power", "(LFoldrose;II)I"⟩
abbrev cL_core : ByteArray := method_11_code
def yL_core : MethodName := ⟨RL, "core", "(LFoldrose;I)I"⟩
abbrev cL_exponent : ByteArray := method_12_code
def yL_exponent : MethodName := ⟨RL, "exponent", "(LFoldrose;I)I"⟩
abbrev cL_sum : ByteArray := method_13_code
def yL_sum : MethodName := ⟨RL, "sum", "(LFoldrose;IC)I"⟩
abbrev cL_conjugator : ByteArray := method_14_code
def yL_conjugator : MethodName := ⟨RL, "conjugator", "(LFoldrose;II)I"⟩
abbrev cL_commute : ByteArray := method_15_code
def yL_commute : MethodName := ⟨RL, "commute", "(LFoldrose;II)I"⟩
abbrev cL_in : ByteArray := method_16_code
def yL_in : MethodName := ⟨RL, "in", "([III)I"⟩
abbrev cL_joined : ByteArray := method_17_code
def yL_joined : MethodName := ⟨RL, "joined", "([I[I)[I"⟩
abbrev cL_turned : ByteArray := method_18_code
def yL_turned : MethodName := ⟨RL, "turned", "([I)[I"⟩
abbrev cL_some : ByteArray := method_19_code
def yL_some : MethodName := ⟨RL, "some", "([III)[I"⟩
abbrev cL_told : ByteArray := method_20_code
def yL_told : MethodName := ⟨RL, "told", "(LFoldrose;[I)I"⟩
abbrev cL_isRow : ByteArray := method_21_code
def yL_isRow : MethodName := ⟨RL, "isRow", "(LFoldrose;I[I)Z"⟩
abbrev cL_law : ByteArray := code
def yL_law : MethodName := ⟨RL, "law", "([I)Z"⟩
def wsX7_init : List Cond := .code yX7_init cX7_init 2 none :: ([.methodLink RX7 3 objectInit, .instanceMethod objectInit, .code objectInit ⟨#[0xb1]⟩ 1 none, .arrayClass .byte, .fieldLink RX7 9 "Foldrose$Row" "letters" "[B"] ++ wsX70)
def wsX1_init : List Cond := .code yX1_init cX1_init 1 none :: ([.methodLink RX1 3 objectInit, .instanceMethod objectInit, .code objectInit ⟨#[0xb1]⟩ 1 none, .arrayClass .int, .fieldLink RX1 9 "Foldrose$Graph" "ends" "[I", .fieldLink RX1 15 "Foldrose$Graph" "treeFrom" "[I", .fieldLink RX1 18 "Foldrose$Graph" "treeLetter" "[I", .fieldLink RX1 21 "Foldrose$Graph" "loops" "[I", .classLink RX1 24 RX7, .instantiable RX7 2, .initialized RX7, .fieldLink RX1 29 "Foldrose$Graph" "back" "LFoldrose$Row;", .methodLink RX1 26 yX7_init, .instanceMethod yX7_init, .code yX7_init cX7_init 2 none, .methodLink RX7 3 objectInit, .arrayClass .byte, .fieldLink RX7 9 "Foldrose$Row" "letters" "[B"] ++ wsX10 ++ wsX70)
def fz_nN : String := "java/util/NoSuchElementException"
def fz_yR : MethodName := ⟨"java/lang/RuntimeException", "<init>", "(Ljava/lang/String;)V"⟩
def fz_yN : MethodName := ⟨"java/util/NoSuchElementException", "<init>", "(Ljava/lang/String;)V"⟩
def fz_sw (w : Cond) : Cond := if w = .methodLink fz_nN 7 fz_yR then .methodLink fz_nN 13 fz_yR else if w = .code fz_yN Bundle.six 2 none then .code fz_yN prog_29_method_4_code 2 none else w
def fz_atN : List Cond := (vx_atS RX9 128 "java/util/NoSuchElementException" ["java/lang/RuntimeException", "java/lang/Exception"]).map fz_sw
def wsX0_init_r1 : List Cond := [Cond.methodLink RX0 3 objectInit, Cond.instanceMethod objectInit, Cond.code objectInit ⟨#[0xb1]⟩ 1 none, Cond.classLink RX0 9 RX1, Cond.instantiable RX1 7, Cond.initialized RX1, Cond.fieldLink RX0 12 "Foldrose$Fitter" "coreOne" "LFoldrose$Graph;", Cond.fieldLink RX0 18 "Foldrose$Fitter" "coreTwo" "LFoldrose$Graph;", Cond.arrayClass .int, Cond.fieldLink RX0 21 "Foldrose$Fitter" "laid" "[I", Cond.fieldLink RX0 25 "Foldrose$Fitter" "found" "[I", Cond.instanceMethod yX1_init, Cond.code yX1_init cX1_init 1 none, Cond.methodLink RX1 3 objectInit, Cond.fieldLink RX1 9 "Foldrose$Graph" "ends" "[I", Cond.fieldLink RX1 15 "Foldrose$Graph" "treeFrom" "[I", Cond.fieldLink RX1 18 "Foldrose$Graph" "treeLetter" "[I", Cond.fieldLink RX1 21 "Foldrose$Graph" "loops" "[I", Cond.classLink RX1 24 RX7, Cond.instantiable RX7 2, Cond.initialized RX7, Cond.fieldLink RX1 29 "Foldrose$Graph" "back" "LFoldrose$Row;", Cond.methodLink RX1 26 yX7_init, Cond.instanceMethod yX7_init]
def wsX0_init_r2 : List Cond := [Cond.code yX7_init cX7_init 2 none, Cond.methodLink RX7 3 objectInit, Cond.arrayClass .byte, Cond.fieldLink RX7 9 "Foldrose$Row" "letters" "[B"]
def wsX0_init : List Cond := .code yX0_init cX0_init 1 none :: ((wsX0_init_r1 ++ wsX0_init_r2) ++ wsX10 ++ wsX00 ++ wsX70)
def wsX1_step : List Cond := .code yX1_step cX1_step 3 (some .int) :: ([.fieldLink RX1 33 "Foldrose$Graph" "size" "I", .fieldLink RX1 9 "Foldrose$Graph" "ends" "[I"] ++ wsX10 ++ (vx_atM "java/lang/ArrayIndexOutOfBoundsException" ["java/lang/IndexOutOfBoundsException", "java/lang/RuntimeException", "java/lang/Exception"]).filter goodWord)
def wsX1_walk : List Cond := .code yX1_walk cX1_walk 4 (some .int) :: ([.fieldLink RX1 37 "Foldrose$Row" "size" "I", .fieldLink RX1 38 "Foldrose$Row" "letters" "[B", .methodLink RX1 42 yX1_step, .instanceMethod yX1_step, .selects RX1 yX1_step yX1_step, .initialized RX1, .code yX1_step cX1_step 3 (some .int), .fieldLink RX1 33 "Foldrose$Graph" "size" "I", .fieldLink RX1 9 "Foldrose$Graph" "ends" "[I"] ++ wsX70 ++ wsX10 ++ (vx_atM "java/lang/ArrayIndexOutOfBoundsException" ["java/lang/IndexOutOfBoundsException", "java/lang/RuntimeException", "java/lang/Exception"]).filter goodWord)
def wsX1_edgeCount : List Cond := .code yX1_edgeCount cX1_edgeCount 4 (some .int) :: ([.fieldLink RX1 33 "Foldrose$Graph" "size" "I", .methodLink RX1 42 yX1_step, .instanceMethod yX1_step, .selects RX1 yX1_step yX1_step, .initialized RX1, .code yX1_step cX1_step 3 (some .int), .fieldLink RX1 9 "Foldrose$Graph" "ends" "[I"] ++ wsX10 ++ (vx_atM "java/lang/ArrayIndexOutOfBoundsException" ["java/lang/IndexOutOfBoundsException", "java/lang/RuntimeException", "java/lang/Exception"]).filter goodWord)
def wsX1_leadsBack : List Cond := .code yX1_leadsBack cX1_leadsBack 4 (some .boolean) :: ([.fieldLink RX1 33 "Foldrose$Graph" "size" "I", .methodLink RX1 42 yX1_step, .instanceMethod yX1_step, .selects RX1 yX1_step yX1_step, .initialized RX1, .code yX1_step cX1_step 3 (some .int), .fieldLink RX1 9 "Foldrose$Graph" "ends" "[I"] ++ wsX10 ++ (vx_atM "java/lang/ArrayIndexOutOfBoundsException" ["java/lang/IndexOutOfBoundsException", "java/lang/RuntimeException", "java/lang/Exception"]).filter goodWord)
def wsX2_init_r1 : List Cond := [Cond.methodLink RX2 3 objectInit, Cond.instanceMethod objectInit, Cond.code objectInit ⟨#[0xb1]⟩ 1 none, Cond.classLink RX2 9 RX1, Cond.instantiable RX1 7, Cond.initialized RX1, Cond.fieldLink RX2 12 "Foldrose$Group" "graph" "LFoldrose$Graph;", Cond.classLink RX2 18 RX7, Cond.fieldLink RX2 20 "Foldrose$Group" "generators" "[LFoldrose$Row;", Cond.instantiable RX7 2, Cond.initialized RX7, Cond.instanceMethod yX1_init, Cond.code yX1_init cX1_init 1 none, Cond.methodLink RX1 3 objectInit, Cond.arrayClass .int, Cond.fieldLink RX1 9 "Foldrose$Graph" "ends" "[I", Cond.fieldLink RX1 15 "Foldrose$Graph" "treeFrom" "[I", Cond.fieldLink RX1 18 "Foldrose$Graph" "treeLetter" "[I", Cond.fieldLink RX1 21 "Foldrose$Graph" "loops" "[I", Cond.classLink RX1 24 RX7, Cond.fieldLink RX1 29 "Foldrose$Graph" "back" "LFoldrose$Row;", Cond.methodLink RX1 26 yX7_init, Cond.instanceMethod yX7_init, Cond.code yX7_init cX7_init 2 none]
def wsX2_init_r2 : List Cond := [Cond.methodLink RX7 3 objectInit, Cond.arrayClass .byte, Cond.fieldLink RX7 9 "Foldrose$Row" "letters" "[B", Cond.methodLink RX2 24 yX7_init]
def wsX2_init : List Cond := .code yX2_init cX2_init 2 none :: ((wsX2_init_r1 ++ wsX2_init_r2) ++ wsX10 ++ wsX20 ++ wsX70)
def wsX2_isConsistent_r1 : List Cond := [Cond.fieldLink RX2 12 "Foldrose$Group" "graph" "LFoldrose$Graph;", Cond.fieldLink RX2 35 "Foldrose$Graph" "loopCount" "I", Cond.fieldLink RX2 53 "Foldrose$Graph" "size" "I", Cond.fieldLink RX2 27 "Foldrose$Group" "generatorCount" "I", Cond.fieldLink RX2 20 "Foldrose$Group" "generators" "[LFoldrose$Row;", Cond.methodLink RX2 45 yX1_leadsBack, Cond.instanceMethod yX1_leadsBack, Cond.selects RX1 yX1_leadsBack yX1_leadsBack, Cond.initialized RX1, Cond.code yX1_leadsBack cX1_leadsBack 4 (some .boolean), Cond.fieldLink RX1 33 "Foldrose$Graph" "size" "I", Cond.methodLink RX1 42 yX1_step, Cond.instanceMethod yX1_step, Cond.selects RX1 yX1_step yX1_step, Cond.code yX1_step cX1_step 3 (some .int), Cond.fieldLink RX1 9 "Foldrose$Graph" "ends" "[I", Cond.methodLink RX2 49 yX1_edgeCount, Cond.instanceMethod yX1_edgeCount, Cond.selects RX1 yX1_edgeCount yX1_edgeCount, Cond.code yX1_edgeCount cX1_edgeCount 4 (some .int), Cond.methodLink RX2 56 yX1_walk, Cond.instanceMethod yX1_walk, Cond.selects RX1 yX1_walk yX1_walk, Cond.code yX1_walk cX1_walk 4 (some .int)]
def wsX2_isConsistent_r2 : List Cond := [Cond.fieldLink RX1 37 "Foldrose$Row" "size" "I", Cond.fieldLink RX1 38 "Foldrose$Row" "letters" "[B"]
def wsX2_isConsistent : List Cond := .code yX2_isConsistent cX2_isConsistent 3 (some .boolean) :: ((wsX2_isConsistent_r1 ++ wsX2_isConsistent_r2) ++ wsX20 ++ wsX10 ++ wsX70 ++ (vx_atM "java/lang/ArrayIndexOutOfBoundsException" ["java/lang/IndexOutOfBoundsException", "java/lang/RuntimeException", "java/lang/Exception"]).filter goodWord)
def wsX3_init : List Cond := .code yX3_init cX3_init 2 none :: ([.methodLink RX3 3 objectInit, .instanceMethod objectInit, .code objectInit ⟨#[0xb1]⟩ 1 none, .classLink RX3 9 RX7, .fieldLink RX3 11 "Foldrose$Images" "rows" "[LFoldrose$Row;", .arrayClass .int, .fieldLink RX3 17 "Foldrose$Images" "heads" "[I", .arrayClass .long, .fieldLink RX3 21 "Foldrose$Images" "sizes" "[J", .fieldLink RX3 25 "Foldrose$Images" "grownSizes" "[J", .instantiable RX7 2, .initialized RX7, .methodLink RX3 28 yX7_init, .instanceMethod yX7_init, .code yX7_init cX7_init 2 none, .methodLink RX7 3 objectInit, .arrayClass .byte, .fieldLink RX7 9 "Foldrose$Row" "letters" "[B"] ++ wsX30 ++ wsX70)
def wsX4_init : List Cond := .code yX4_init cX4_init 2 none :: ([.methodLink RX4 3 objectInit, .instanceMethod objectInit, .code objectInit ⟨#[0xb1]⟩ 1 none, .classLink RX4 9 RX7, .fieldLink RX4 11 "Foldrose$Inverter" "images" "[LFoldrose$Row;", .fieldLink RX4 17 "Foldrose$Inverter" "origins" "[LFoldrose$Row;", .instantiable RX7 2, .initialized RX7, .fieldLink RX4 23 "Foldrose$Inverter" "image" "LFoldrose$Row;", .fieldLink RX4 27 "Foldrose$Inverter" "origin" "LFoldrose$Row;", .methodLink RX4 20 yX7_init, .instanceMethod yX7_init, .code yX7_init cX7_init 2 none, .methodLink RX7 3 objectInit, .arrayClass .byte, .fieldLink RX7 9 "Foldrose$Row" "letters" "[B"] ++ wsX40 ++ wsX70)
def wsX5_init : List Cond := .code yX5_init cX5_init 1 none :: ([.methodLink RX5 3 objectInit, .instanceMethod objectInit, .code objectInit ⟨#[0xb1]⟩ 1 none, .arrayClass .int, .fieldLink RX5 9 "Foldrose$Net" "ends" "[I", .fieldLink RX5 15 "Foldrose$Net" "into" "[I", .fieldLink RX5 18 "Foldrose$Net" "marks" "[I", .fieldLink RX5 21 "Foldrose$Net" "pairs" "[I", .fieldLink RX5 24 "Foldrose$Net" "found" "[I", .fieldLink RX5 27 "Foldrose$Net" "waitingOnes" "[I", .fieldLink RX5 30 "Foldrose$Net" "waitingOthers" "[I"] ++ wsX50)
def wsX6_init : List Cond := .code yX6_init cX6_init 1 none :: ([.methodLink RX6 3 objectInit, .instanceMethod objectInit, .code objectInit ⟨#[0xb1]⟩ 1 none, .arrayClass .long, .fieldLink RX6 9 "Foldrose$Paths" "ways" "[J", .fieldLink RX6 15 "Foldrose$Paths" "longer" "[J"] ++ wsX60)
def wsX7_clear : List Cond := .code yX7_clear cX7_clear 1 none :: ([.fieldLink RX7 15 "Foldrose$Row" "size" "I"] ++ wsX70)
def wsX7_add : List Cond := .code yX7_add cX7_add 2 none :: ([.fieldLink RX7 15 "Foldrose$Row" "size" "I", .fieldLink RX7 9 "Foldrose$Row" "letters" "[B"] ++ wsX70 ++ (vx_atM "java/lang/ArrayIndexOutOfBoundsException" ["java/lang/IndexOutOfBoundsException", "java/lang/RuntimeException", "java/lang/Exception"]).filter goodWord)
def wsX7_addPart : List Cond := .code yX7_addPart cX7_addPart 6 none :: ([.fieldLink RX7 15 "Foldrose$Row" "size" "I", .fieldLink RX7 9 "Foldrose$Row" "letters" "[B", .methodLink RX7 19 yX7_add, .instanceMethod yX7_add, .selects RX7 yX7_add yX7_add, .initialized RX7, .code yX7_add cX7_add 2 none] ++ wsX70 ++ (vx_atM "java/lang/ArrayIndexOutOfBoundsException" ["java/lang/IndexOutOfBoundsException", "java/lang/RuntimeException", "java/lang/Exception"]).filter goodWord)
def wsX7_addPartInverse : List Cond := .code yX7_addPartInverse cX7_addPartInverse 6 none :: ([.fieldLink RX7 15 "Foldrose$Row" "size" "I", .fieldLink RX7 9 "Foldrose$Row" "letters" "[B", .methodLink RX7 19 yX7_add, .instanceMethod yX7_add, .selects RX7 yX7_add yX7_add, .initialized RX7, .code yX7_add cX7_add 2 none] ++ wsX70 ++ (vx_atM "java/lang/ArrayIndexOutOfBoundsException" ["java/lang/IndexOutOfBoundsException", "java/lang/RuntimeException", "java/lang/Exception"]).filter goodWord)
def wsX7_addRow : List Cond := .code yX7_addRow cX7_addRow 4 none :: ([.fieldLink RX7 15 "Foldrose$Row" "size" "I", .fieldLink RX7 9 "Foldrose$Row" "letters" "[B", .methodLink RX7 19 yX7_add, .instanceMethod yX7_add, .selects RX7 yX7_add yX7_add, .initialized RX7, .code yX7_add cX7_add 2 none] ++ wsX70 ++ (vx_atM "java/lang/ArrayIndexOutOfBoundsException" ["java/lang/IndexOutOfBoundsException", "java/lang/RuntimeException", "java/lang/Exception"]).filter goodWord)
def wsX7_addInverse : List Cond := .code yX7_addInverse cX7_addInverse 3 none :: ([.fieldLink RX7 15 "Foldrose$Row" "size" "I", .fieldLink RX7 9 "Foldrose$Row" "letters" "[B", .methodLink RX7 19 yX7_add, .instanceMethod yX7_add, .selects RX7 yX7_add yX7_add, .initialized RX7, .code yX7_add cX7_add 2 none] ++ wsX70 ++ (vx_atM "java/lang/ArrayIndexOutOfBoundsException" ["java/lang/IndexOutOfBoundsException", "java/lang/RuntimeException", "java/lang/Exception"]).filter goodWord)
def wsX7_set : List Cond := .code yX7_set cX7_set 3 none :: ([.fieldLink RX7 15 "Foldrose$Row" "size" "I", .fieldLink RX7 9 "Foldrose$Row" "letters" "[B"] ++ wsX70 ++ (vx_atM "java/lang/ArrayIndexOutOfBoundsException" ["java/lang/IndexOutOfBoundsException", "java/lang/RuntimeException", "java/lang/Exception"]).filter goodWord)
def wsX7_orderTo : List Cond := .code yX7_orderTo cX7_orderTo 3 (some .int) :: ([.fieldLink RX7 15 "Foldrose$Row" "size" "I", .fieldLink RX7 9 "Foldrose$Row" "letters" "[B"] ++ wsX70 ++ (vx_atM "java/lang/ArrayIndexOutOfBoundsException" ["java/lang/IndexOutOfBoundsException", "java/lang/RuntimeException", "java/lang/Exception"]).filter goodWord)
def wsX7_sumOf : List Cond := .code yX7_sumOf cX7_sumOf 4 (some .int) :: ([.fieldLink RX7 15 "Foldrose$Row" "size" "I", .fieldLink RX7 9 "Foldrose$Row" "letters" "[B"] ++ wsX70 ++ (vx_atM "java/lang/ArrayIndexOutOfBoundsException" ["java/lang/IndexOutOfBoundsException", "java/lang/RuntimeException", "java/lang/Exception"]).filter goodWord)
def wsX7_isCancelled : List Cond := .code yX7_isCancelled cX7_isCancelled 2 (some .boolean) :: ([.fieldLink RX7 15 "Foldrose$Row" "size" "I", .fieldLink RX7 9 "Foldrose$Row" "letters" "[B"] ++ wsX70 ++ (vx_atM "java/lang/ArrayIndexOutOfBoundsException" ["java/lang/IndexOutOfBoundsException", "java/lang/RuntimeException", "java/lang/Exception"]).filter goodWord)
def wsX7_coreStart : List Cond := .code yX7_coreStart cX7_coreStart 2 (some .int) :: ([.fieldLink RX7 15 "Foldrose$Row" "size" "I", .fieldLink RX7 9 "Foldrose$Row" "letters" "[B"] ++ wsX70 ++ (vx_atM "java/lang/ArrayIndexOutOfBoundsException" ["java/lang/IndexOutOfBoundsException", "java/lang/RuntimeException", "java/lang/Exception"]).filter goodWord)
def wsX7_coreSize : List Cond := .code yX7_coreSize cX7_coreSize 1 (some .int) :: ([.fieldLink RX7 15 "Foldrose$Row" "size" "I", .methodLink RX7 23 yX7_coreStart, .instanceMethod yX7_coreStart, .selects RX7 yX7_coreStart yX7_coreStart, .initialized RX7, .code yX7_coreStart cX7_coreStart 2 (some .int), .fieldLink RX7 9 "Foldrose$Row" "letters" "[B"] ++ wsX70 ++ (vx_atM "java/lang/ArrayIndexOutOfBoundsException" ["java/lang/IndexOutOfBoundsException", "java/lang/RuntimeException", "java/lang/Exception"]).filter goodWord)
def wsX7_repeats : List Cond := .code yX7_repeats cX7_repeats 5 (some .boolean) :: ([.fieldLink RX7 9 "Foldrose$Row" "letters" "[B"] ++ wsX70 ++ (vx_atM "java/lang/ArrayIndexOutOfBoundsException" ["java/lang/IndexOutOfBoundsException", "java/lang/RuntimeException", "java/lang/Exception"]).filter goodWord)
def wsX7_corePeriod : List Cond := .code yX7_corePeriod cX7_corePeriod 4 (some .int) :: ([.fieldLink RX7 15 "Foldrose$Row" "size" "I", .methodLink RX7 23 yX7_coreStart, .instanceMethod yX7_coreStart, .selects RX7 yX7_coreStart yX7_coreStart, .initialized RX7, .code yX7_coreStart cX7_coreStart 2 (some .int), .fieldLink RX7 9 "Foldrose$Row" "letters" "[B", .methodLink RX7 27 yX7_repeats, .instanceMethod yX7_repeats, .selects RX7 yX7_repeats yX7_repeats, .code yX7_repeats cX7_repeats 5 (some .boolean)] ++ wsX70 ++ (vx_atM "java/lang/ArrayIndexOutOfBoundsException" ["java/lang/IndexOutOfBoundsException", "java/lang/RuntimeException", "java/lang/Exception"]).filter goodWord)
def wsX7_isTurned : List Cond := .code yX7_isTurned cX7_isTurned 8 (some .boolean) :: ([.fieldLink RX7 9 "Foldrose$Row" "letters" "[B"] ++ wsX70 ++ (vx_atM "java/lang/ArrayIndexOutOfBoundsException" ["java/lang/IndexOutOfBoundsException", "java/lang/RuntimeException", "java/lang/Exception"]).filter goodWord)
def wsX7_turnOfCore : List Cond := .code yX7_turnOfCore cX7_turnOfCore 4 (some .int) :: ([.methodLink RX7 31 yX7_coreSize, .instanceMethod yX7_coreSize, .selects RX7 yX7_coreSize yX7_coreSize, .initialized RX7, .code yX7_coreSize cX7_coreSize 1 (some .int), .fieldLink RX7 15 "Foldrose$Row" "size" "I", .methodLink RX7 23 yX7_coreStart, .instanceMethod yX7_coreStart, .selects RX7 yX7_coreStart yX7_coreStart, .code yX7_coreStart cX7_coreStart 2 (some .int), .fieldLink RX7 9 "Foldrose$Row" "letters" "[B", .methodLink RX7 34 yX7_isTurned, .instanceMethod yX7_isTurned, .selects RX7 yX7_isTurned yX7_isTurned, .code yX7_isTurned cX7_isTurned 8 (some .boolean)] ++ wsX70 ++ (vx_atM "java/lang/ArrayIndexOutOfBoundsException" ["java/lang/IndexOutOfBoundsException", "java/lang/RuntimeException", "java/lang/Exception"]).filter goodWord)
def wsX8_init : List Cond := .code yX8_init cX8_init 1 none :: ([.methodLink RX8 3 objectInit, .instanceMethod objectInit, .code objectInit ⟨#[0xb1]⟩ 1 none, .classLink RX8 9 RX7, .instantiable RX7 2, .initialized RX7, .fieldLink RX8 14 "Foldrose$Shortener" "moved" "LFoldrose$Row;", .fieldLink RX8 20 "Foldrose$Shortener" "turned" "LFoldrose$Row;", .arrayClass .int, .fieldLink RX8 23 "Foldrose$Shortener" "turns" "[I", .methodLink RX8 11 yX7_init, .instanceMethod yX7_init, .code yX7_init cX7_init 2 none, .methodLink RX7 3 objectInit, .arrayClass .byte, .fieldLink RX7 9 "Foldrose$Row" "letters" "[B"] ++ wsX70 ++ wsX80)
def wsX9_init_r1 : List Cond := [Cond.methodLink RX9 3 objectInit, Cond.instanceMethod objectInit, Cond.code objectInit ⟨#[0xb1]⟩ 1 none, Cond.arrayClass .byte, Cond.fieldLink RX9 9 "Foldrose" "typed" "[B", Cond.classLink RX9 13 RX7, Cond.fieldLink RX9 15 "Foldrose" "words" "[LFoldrose$Row;", Cond.fieldLink RX9 19 "Foldrose" "forms" "[LFoldrose$Row;", Cond.arrayClass .boolean, Cond.fieldLink RX9 22 "Foldrose" "formKnown" "[Z", Cond.classLink RX9 26 RX2, Cond.fieldLink RX9 28 "Foldrose" "groups" "[LFoldrose$Group;", Cond.classLink RX9 32 RX3, Cond.fieldLink RX9 34 "Foldrose" "maps" "[LFoldrose$Images;", Cond.instantiable RX7 2, Cond.initialized RX7, Cond.fieldLink RX9 41 "Foldrose" "draft" "LFoldrose$Row;", Cond.fieldLink RX9 45 "Foldrose" "second" "LFoldrose$Row;", Cond.classLink RX9 48 RX1, Cond.instantiable RX1 7, Cond.initialized RX1, Cond.fieldLink RX9 51 "Foldrose" "spare" "LFoldrose$Graph;", Cond.classLink RX9 55 RX5, Cond.instantiable RX5 9]
def wsX9_init_r2 : List Cond := [Cond.initialized RX5, Cond.fieldLink RX9 58 "Foldrose" "net" "LFoldrose$Net;", Cond.classLink RX9 62 RX0, Cond.instantiable RX0 4, Cond.initialized RX0, Cond.fieldLink RX9 65 "Foldrose" "fitter" "LFoldrose$Fitter;", Cond.classLink RX9 69 RX6, Cond.instantiable RX6 2, Cond.initialized RX6, Cond.fieldLink RX9 72 "Foldrose" "paths" "LFoldrose$Paths;", Cond.classLink RX9 76 RX8, Cond.instantiable RX8 6, Cond.initialized RX8, Cond.fieldLink RX9 79 "Foldrose" "shortener" "LFoldrose$Shortener;", Cond.classLink RX9 83 RX4, Cond.instantiable RX4 5, Cond.initialized RX4, Cond.fieldLink RX9 86 "Foldrose" "inverter" "LFoldrose$Inverter;", Cond.instantiable RX2 3, Cond.initialized RX2, Cond.instantiable RX3 4, Cond.initialized RX3, Cond.methodLink RX9 38 yX7_init, Cond.instanceMethod yX7_init]
def wsX9_init_r3 : List Cond := [Cond.code yX7_init cX7_init 2 none, Cond.methodLink RX7 3 objectInit, Cond.fieldLink RX7 9 "Foldrose$Row" "letters" "[B", Cond.instanceMethod yX1_init, Cond.code yX1_init cX1_init 1 none, Cond.methodLink RX1 3 objectInit, Cond.arrayClass .int, Cond.fieldLink RX1 9 "Foldrose$Graph" "ends" "[I", Cond.fieldLink RX1 15 "Foldrose$Graph" "treeFrom" "[I", Cond.fieldLink RX1 18 "Foldrose$Graph" "treeLetter" "[I", Cond.fieldLink RX1 21 "Foldrose$Graph" "loops" "[I", Cond.classLink RX1 24 RX7, Cond.fieldLink RX1 29 "Foldrose$Graph" "back" "LFoldrose$Row;", Cond.methodLink RX1 26 yX7_init, Cond.instanceMethod yX5_init, Cond.code yX5_init cX5_init 1 none, Cond.methodLink RX5 3 objectInit, Cond.fieldLink RX5 9 "Foldrose$Net" "ends" "[I", Cond.fieldLink RX5 15 "Foldrose$Net" "into" "[I", Cond.fieldLink RX5 18 "Foldrose$Net" "marks" "[I", Cond.fieldLink RX5 21 "Foldrose$Net" "pairs" "[I", Cond.fieldLink RX5 24 "Foldrose$Net" "found" "[I", Cond.fieldLink RX5 27 "Foldrose$Net" "waitingOnes" "[I", Cond.fieldLink RX5 30 "Foldrose$Net" "waitingOthers" "[I"]
def wsX9_init_r4 : List Cond := [Cond.instanceMethod yX0_init, Cond.code yX0_init cX0_init 1 none, Cond.methodLink RX0 3 objectInit, Cond.classLink RX0 9 RX1, Cond.fieldLink RX0 12 "Foldrose$Fitter" "coreOne" "LFoldrose$Graph;", Cond.fieldLink RX0 18 "Foldrose$Fitter" "coreTwo" "LFoldrose$Graph;", Cond.fieldLink RX0 21 "Foldrose$Fitter" "laid" "[I", Cond.fieldLink RX0 25 "Foldrose$Fitter" "found" "[I", Cond.instanceMethod yX6_init, Cond.code yX6_init cX6_init 1 none, Cond.methodLink RX6 3 objectInit, Cond.arrayClass .long, Cond.fieldLink RX6 9 "Foldrose$Paths" "ways" "[J", Cond.fieldLink RX6 15 "Foldrose$Paths" "longer" "[J", Cond.instanceMethod yX8_init, Cond.code yX8_init cX8_init 1 none, Cond.methodLink RX8 3 objectInit, Cond.classLink RX8 9 RX7, Cond.fieldLink RX8 14 "Foldrose$Shortener" "moved" "LFoldrose$Row;", Cond.fieldLink RX8 20 "Foldrose$Shortener" "turned" "LFoldrose$Row;", Cond.fieldLink RX8 23 "Foldrose$Shortener" "turns" "[I", Cond.methodLink RX8 11 yX7_init, Cond.methodLink RX9 85 yX4_init, Cond.instanceMethod yX4_init]
def wsX9_init_r5 : List Cond := [Cond.code yX4_init cX4_init 2 none, Cond.methodLink RX4 3 objectInit, Cond.classLink RX4 9 RX7, Cond.fieldLink RX4 11 "Foldrose$Inverter" "images" "[LFoldrose$Row;", Cond.fieldLink RX4 17 "Foldrose$Inverter" "origins" "[LFoldrose$Row;", Cond.fieldLink RX4 23 "Foldrose$Inverter" "image" "LFoldrose$Row;", Cond.fieldLink RX4 27 "Foldrose$Inverter" "origin" "LFoldrose$Row;", Cond.methodLink RX4 20 yX7_init, Cond.methodLink RX9 90 yX2_init, Cond.instanceMethod yX2_init, Cond.code yX2_init cX2_init 2 none, Cond.methodLink RX2 3 objectInit, Cond.classLink RX2 9 RX1, Cond.fieldLink RX2 12 "Foldrose$Group" "graph" "LFoldrose$Graph;", Cond.classLink RX2 18 RX7, Cond.fieldLink RX2 20 "Foldrose$Group" "generators" "[LFoldrose$Row;", Cond.methodLink RX2 24 yX7_init, Cond.methodLink RX9 91 yX3_init, Cond.instanceMethod yX3_init, Cond.code yX3_init cX3_init 2 none, Cond.methodLink RX3 3 objectInit, Cond.classLink RX3 9 RX7, Cond.fieldLink RX3 11 "Foldrose$Images" "rows" "[LFoldrose$Row;", Cond.fieldLink RX3 17 "Foldrose$Images" "heads" "[I"]
def wsX9_init_r6 : List Cond := [Cond.fieldLink RX3 21 "Foldrose$Images" "sizes" "[J", Cond.fieldLink RX3 25 "Foldrose$Images" "grownSizes" "[J", Cond.methodLink RX3 28 yX7_init]
def wsX9_init : List Cond := .code yX9_init cX9_init 2 none :: ((wsX9_init_r1 ++ (wsX9_init_r2 ++ (wsX9_init_r3 ++ (wsX9_init_r4 ++ (wsX9_init_r5 ++ wsX9_init_r6))))) ++ wsX90 ++ wsX70 ++ wsX10 ++ wsX50 ++ wsX00 ++ wsX60 ++ wsX80 ++ wsX40 ++ wsX20 ++ wsX30)
def wsX9_codeOf : List Cond := .code yX9_codeOf cX9_codeOf 3 (some .int) :: ([.classLink RX9 147 "java/lang/IllegalArgumentException", .initialized "java/lang/IllegalArgumentException", .fieldLink RX9 129 "Foldrose" "SIGNS" "[C"] ++ (vx_atM "java/lang/ArrayIndexOutOfBoundsException" ["java/lang/IndexOutOfBoundsException", "java/lang/RuntimeException", "java/lang/Exception"]).filter goodWord ++ (vx_atS RX9 151 "java/lang/IllegalArgumentException" ["java/lang/RuntimeException", "java/lang/Exception"]).filter goodWord)
def wsX9_type : List Cond := .code yX9_type cX9_type 3 (some .int) :: ([.classLink RX9 100 "java/lang/IllegalStateException", .initialized "java/lang/IllegalStateException", .fieldLink RX9 96 "Foldrose" "typedCount" "I", .fieldLink RX9 9 "Foldrose" "typed" "[B", .methodLink RX9 92 yX9_codeOf, .instanceMethod yX9_codeOf, .selects RX9 yX9_codeOf yX9_codeOf, .initialized RX9, .code yX9_codeOf cX9_codeOf 3 (some .int), .classLink RX9 147 "java/lang/IllegalArgumentException", .initialized "java/lang/IllegalArgumentException", .fieldLink RX9 129 "Foldrose" "SIGNS" "[C"] ++ wsX90 ++ (vx_atS RX9 104 "java/lang/IllegalStateException" ["java/lang/RuntimeException", "java/lang/Exception"]).filter goodWord ++ (vx_atM "java/lang/ArrayIndexOutOfBoundsException" ["java/lang/IndexOutOfBoundsException", "java/lang/RuntimeException", "java/lang/Exception"]).filter goodWord ++ (vx_atS RX9 151 "java/lang/IllegalArgumentException" ["java/lang/RuntimeException", "java/lang/Exception"]).filter goodWord)
def wsX9_wipe : List Cond := .code yX9_wipe cX9_wipe 2 (some .int) :: ([.fieldLink RX9 96 "Foldrose" "typedCount" "I"] ++ wsX90)
def wsX9_keep : List Cond := .code yX9_keep cX9_keep 2 (some .int) :: ([.classLink RX9 100 "java/lang/IllegalStateException", .initialized "java/lang/IllegalStateException", .fieldLink RX9 368 "Foldrose" "wordCount" "I", .fieldLink RX9 121 "Foldrose$Row" "size" "I", .fieldLink RX9 15 "Foldrose" "words" "[LFoldrose$Row;", .methodLink RX9 329 yX7_set, .instanceMethod yX7_set, .selects RX7 yX7_set yX7_set, .initialized RX7, .code yX7_set cX7_set 3 none, .fieldLink RX7 15 "Foldrose$Row" "size" "I", .fieldLink RX7 9 "Foldrose$Row" "letters" "[B"] ++ wsX90 ++ wsX70 ++ (vx_atS RX9 104 "java/lang/IllegalStateException" ["java/lang/RuntimeException", "java/lang/Exception"]).filter goodWord ++ (vx_atM "java/lang/ArrayIndexOutOfBoundsException" ["java/lang/IndexOutOfBoundsException", "java/lang/RuntimeException", "java/lang/Exception"]).filter goodWord)
def wsX9_word_r1 : List Cond := [Cond.fieldLink RX9 41 "Foldrose" "draft" "LFoldrose$Row;", Cond.fieldLink RX9 96 "Foldrose" "typedCount" "I", Cond.fieldLink RX9 9 "Foldrose" "typed" "[B", Cond.methodLink RX9 107 yX7_clear, Cond.instanceMethod yX7_clear, Cond.selects RX7 yX7_clear yX7_clear, Cond.initialized RX7, Cond.code yX7_clear cX7_clear 1 none, Cond.fieldLink RX7 15 "Foldrose$Row" "size" "I", Cond.methodLink RX9 110 yX7_add, Cond.instanceMethod yX7_add, Cond.selects RX7 yX7_add yX7_add, Cond.code yX7_add cX7_add 2 none, Cond.fieldLink RX7 9 "Foldrose$Row" "letters" "[B", Cond.methodLink RX9 113 yX9_keep, Cond.instanceMethod yX9_keep, Cond.selects RX9 yX9_keep yX9_keep, Cond.initialized RX9, Cond.code yX9_keep cX9_keep 2 (some .int), Cond.classLink RX9 100 "java/lang/IllegalStateException", Cond.initialized "java/lang/IllegalStateException", Cond.fieldLink RX9 368 "Foldrose" "wordCount" "I", Cond.fieldLink RX9 121 "Foldrose$Row" "size" "I", Cond.fieldLink RX9 15 "Foldrose" "words" "[LFoldrose$Row;"]
def wsX9_word_r2 : List Cond := [Cond.methodLink RX9 329 yX7_set, Cond.instanceMethod yX7_set, Cond.selects RX7 yX7_set yX7_set, Cond.code yX7_set cX7_set 3 none]
def wsX9_word : List Cond := .code yX9_word cX9_word 2 (some .int) :: ((wsX9_word_r1 ++ wsX9_word_r2) ++ wsX90 ++ wsX70 ++ (vx_atM "java/lang/ArrayIndexOutOfBoundsException" ["java/lang/IndexOutOfBoundsException", "java/lang/RuntimeException", "java/lang/Exception"]).filter goodWord ++ (vx_atS RX9 104 "java/lang/IllegalStateException" ["java/lang/RuntimeException", "java/lang/Exception"]).filter goodWord)
def wsX9_wordAt : List Cond := .code yX9_wordAt cX9_wordAt 2 (some (.object "Foldrose$Row")) :: ([.classLink RX9 387 "java/lang/IndexOutOfBoundsException", .initialized "java/lang/IndexOutOfBoundsException", .fieldLink RX9 368 "Foldrose" "wordCount" "I", .fieldLink RX9 15 "Foldrose" "words" "[LFoldrose$Row;"] ++ wsX90 ++ (vx_atS RX9 391 "java/lang/IndexOutOfBoundsException" ["java/lang/RuntimeException", "java/lang/Exception"]).filter goodWord)
def wsX9_length : List Cond := .code yX9_length cX9_length 2 (some .int) :: ([.fieldLink RX9 121 "Foldrose$Row" "size" "I", .methodLink RX9 117 yX9_wordAt, .instanceMethod yX9_wordAt, .selects RX9 yX9_wordAt yX9_wordAt, .initialized RX9, .code yX9_wordAt cX9_wordAt 2 (some (.object "Foldrose$Row")), .classLink RX9 387 "java/lang/IndexOutOfBoundsException", .initialized "java/lang/IndexOutOfBoundsException", .fieldLink RX9 368 "Foldrose" "wordCount" "I", .fieldLink RX9 15 "Foldrose" "words" "[LFoldrose$Row;"] ++ wsX70 ++ wsX90 ++ (vx_atS RX9 391 "java/lang/IndexOutOfBoundsException" ["java/lang/RuntimeException", "java/lang/Exception"]).filter goodWord)
def wsX9_letter : List Cond := .code yX9_letter cX9_letter 4 (some .char) :: ([.classLink RX9 124 "java/util/NoSuchElementException", .initialized "java/util/NoSuchElementException", .fieldLink RX9 121 "Foldrose$Row" "size" "I", .fieldLink RX9 129 "Foldrose" "SIGNS" "[C", .fieldLink RX9 133 "Foldrose$Row" "letters" "[B", .methodLink RX9 117 yX9_wordAt, .instanceMethod yX9_wordAt, .selects RX9 yX9_wordAt yX9_wordAt, .initialized RX9, .code yX9_wordAt cX9_wordAt 2 (some (.object "Foldrose$Row")), .classLink RX9 387 "java/lang/IndexOutOfBoundsException", .initialized "java/lang/IndexOutOfBoundsException", .fieldLink RX9 368 "Foldrose" "wordCount" "I", .fieldLink RX9 15 "Foldrose" "words" "[LFoldrose$Row;"] ++ wsX70 ++ wsX90 ++ fz_atN.filter goodWord ++ (vx_atM "java/lang/ArrayIndexOutOfBoundsException" ["java/lang/IndexOutOfBoundsException", "java/lang/RuntimeException", "java/lang/Exception"]).filter goodWord ++ (vx_atS RX9 391 "java/lang/IndexOutOfBoundsException" ["java/lang/RuntimeException", "java/lang/Exception"]).filter goodWord)
def wsX9_compare : List Cond := .code yX9_compare cX9_compare 3 (some .int) :: ([.methodLink RX9 117 yX9_wordAt, .instanceMethod yX9_wordAt, .selects RX9 yX9_wordAt yX9_wordAt, .initialized RX9, .code yX9_wordAt cX9_wordAt 2 (some (.object "Foldrose$Row")), .classLink RX9 387 "java/lang/IndexOutOfBoundsException", .initialized "java/lang/IndexOutOfBoundsException", .fieldLink RX9 368 "Foldrose" "wordCount" "I", .fieldLink RX9 15 "Foldrose" "words" "[LFoldrose$Row;", .methodLink RX9 136 yX7_orderTo, .instanceMethod yX7_orderTo, .selects RX7 yX7_orderTo yX7_orderTo, .initialized RX7, .code yX7_orderTo cX7_orderTo 3 (some .int), .fieldLink RX7 15 "Foldrose$Row" "size" "I", .fieldLink RX7 9 "Foldrose$Row" "letters" "[B"] ++ wsX90 ++ wsX70 ++ (vx_atS RX9 391 "java/lang/IndexOutOfBoundsException" ["java/lang/RuntimeException", "java/lang/Exception"]).filter goodWord ++ (vx_atM "java/lang/ArrayIndexOutOfBoundsException" ["java/lang/IndexOutOfBoundsException", "java/lang/RuntimeException", "java/lang/Exception"]).filter goodWord)
def wsX9_setProduct : List Cond := .code yX9_setProduct cX9_setProduct 3 none :: ([.methodLink RX9 107 yX7_clear, .instanceMethod yX7_clear, .selects RX7 yX7_clear yX7_clear, .initialized RX7, .code yX7_clear cX7_clear 1 none, .fieldLink RX7 15 "Foldrose$Row" "size" "I", .methodLink RX9 152 yX7_addRow, .instanceMethod yX7_addRow, .selects RX7 yX7_addRow yX7_addRow, .code yX7_addRow cX7_addRow 4 none, .fieldLink RX7 9 "Foldrose$Row" "letters" "[B", .methodLink RX7 19 yX7_add, .instanceMethod yX7_add, .selects RX7 yX7_add yX7_add, .code yX7_add cX7_add 2 none] ++ wsX70 ++ (vx_atM "java/lang/ArrayIndexOutOfBoundsException" ["java/lang/IndexOutOfBoundsException", "java/lang/RuntimeException", "java/lang/Exception"]).filter goodWord)
def wsX9_product_r1 : List Cond := [Cond.fieldLink RX9 41 "Foldrose" "draft" "LFoldrose$Row;", Cond.methodLink RX9 117 yX9_wordAt, Cond.instanceMethod yX9_wordAt, Cond.selects RX9 yX9_wordAt yX9_wordAt, Cond.initialized RX9, Cond.code yX9_wordAt cX9_wordAt 2 (some (.object "Foldrose$Row")), Cond.classLink RX9 387 "java/lang/IndexOutOfBoundsException", Cond.initialized "java/lang/IndexOutOfBoundsException", Cond.fieldLink RX9 368 "Foldrose" "wordCount" "I", Cond.fieldLink RX9 15 "Foldrose" "words" "[LFoldrose$Row;", Cond.methodLink RX9 139 yX9_setProduct, Cond.static yX9_setProduct, Cond.code yX9_setProduct cX9_setProduct 3 none, Cond.methodLink RX9 107 yX7_clear, Cond.instanceMethod yX7_clear, Cond.selects RX7 yX7_clear yX7_clear, Cond.initialized RX7, Cond.code yX7_clear cX7_clear 1 none, Cond.fieldLink RX7 15 "Foldrose$Row" "size" "I", Cond.methodLink RX9 152 yX7_addRow, Cond.instanceMethod yX7_addRow, Cond.selects RX7 yX7_addRow yX7_addRow, Cond.code yX7_addRow cX7_addRow 4 none, Cond.fieldLink RX7 9 "Foldrose$Row" "letters" "[B"]
def wsX9_product_r2 : List Cond := [Cond.methodLink RX7 19 yX7_add, Cond.instanceMethod yX7_add, Cond.selects RX7 yX7_add yX7_add, Cond.code yX7_add cX7_add 2 none, Cond.methodLink RX9 113 yX9_keep, Cond.instanceMethod yX9_keep, Cond.selects RX9 yX9_keep yX9_keep, Cond.code yX9_keep cX9_keep 2 (some .int), Cond.classLink RX9 100 "java/lang/IllegalStateException", Cond.initialized "java/lang/IllegalStateException", Cond.fieldLink RX9 121 "Foldrose$Row" "size" "I", Cond.methodLink RX9 329 yX7_set, Cond.instanceMethod yX7_set, Cond.selects RX7 yX7_set yX7_set, Cond.code yX7_set cX7_set 3 none]
def wsX9_product : List Cond := .code yX9_product cX9_product 3 (some .int) :: ((wsX9_product_r1 ++ wsX9_product_r2) ++ wsX90 ++ wsX70 ++ (vx_atS RX9 391 "java/lang/IndexOutOfBoundsException" ["java/lang/RuntimeException", "java/lang/Exception"]).filter goodWord ++ (vx_atM "java/lang/ArrayIndexOutOfBoundsException" ["java/lang/IndexOutOfBoundsException", "java/lang/RuntimeException", "java/lang/Exception"]).filter goodWord ++ (vx_atS RX9 104 "java/lang/IllegalStateException" ["java/lang/RuntimeException", "java/lang/Exception"]).filter goodWord)
def wsX9_inverse_r1 : List Cond := [Cond.fieldLink RX9 41 "Foldrose" "draft" "LFoldrose$Row;", Cond.methodLink RX9 117 yX9_wordAt, Cond.instanceMethod yX9_wordAt, Cond.selects RX9 yX9_wordAt yX9_wordAt, Cond.initialized RX9, Cond.code yX9_wordAt cX9_wordAt 2 (some (.object "Foldrose$Row")), Cond.classLink RX9 387 "java/lang/IndexOutOfBoundsException", Cond.initialized "java/lang/IndexOutOfBoundsException", Cond.fieldLink RX9 368 "Foldrose" "wordCount" "I", Cond.fieldLink RX9 15 "Foldrose" "words" "[LFoldrose$Row;", Cond.methodLink RX9 107 yX7_clear, Cond.instanceMethod yX7_clear, Cond.selects RX7 yX7_clear yX7_clear, Cond.initialized RX7, Cond.code yX7_clear cX7_clear 1 none, Cond.fieldLink RX7 15 "Foldrose$Row" "size" "I", Cond.methodLink RX9 143 yX7_addInverse, Cond.instanceMethod yX7_addInverse, Cond.selects RX7 yX7_addInverse yX7_addInverse, Cond.code yX7_addInverse cX7_addInverse 3 none, Cond.fieldLink RX7 9 "Foldrose$Row" "letters" "[B", Cond.methodLink RX7 19 yX7_add, Cond.instanceMethod yX7_add, Cond.selects RX7 yX7_add yX7_add]
def wsX9_inverse_r2 : List Cond := [Cond.code yX7_add cX7_add 2 none, Cond.methodLink RX9 113 yX9_keep, Cond.instanceMethod yX9_keep, Cond.selects RX9 yX9_keep yX9_keep, Cond.code yX9_keep cX9_keep 2 (some .int), Cond.classLink RX9 100 "java/lang/IllegalStateException", Cond.initialized "java/lang/IllegalStateException", Cond.fieldLink RX9 121 "Foldrose$Row" "size" "I", Cond.methodLink RX9 329 yX7_set, Cond.instanceMethod yX7_set, Cond.selects RX7 yX7_set yX7_set, Cond.code yX7_set cX7_set 3 none]
def wsX9_inverse : List Cond := .code yX9_inverse cX9_inverse 3 (some .int) :: ((wsX9_inverse_r1 ++ wsX9_inverse_r2) ++ wsX90 ++ wsX70 ++ (vx_atS RX9 391 "java/lang/IndexOutOfBoundsException" ["java/lang/RuntimeException", "java/lang/Exception"]).filter goodWord ++ (vx_atM "java/lang/ArrayIndexOutOfBoundsException" ["java/lang/IndexOutOfBoundsException", "java/lang/RuntimeException", "java/lang/Exception"]).filter goodWord ++ (vx_atS RX9 104 "java/lang/IllegalStateException" ["java/lang/RuntimeException", "java/lang/Exception"]).filter goodWord)
def wsX9_power_r1 : List Cond := [Cond.classLink RX9 147 "java/lang/IllegalArgumentException", Cond.initialized "java/lang/IllegalArgumentException", Cond.fieldLink RX9 41 "Foldrose" "draft" "LFoldrose$Row;", Cond.methodLink RX9 117 yX9_wordAt, Cond.instanceMethod yX9_wordAt, Cond.selects RX9 yX9_wordAt yX9_wordAt, Cond.initialized RX9, Cond.code yX9_wordAt cX9_wordAt 2 (some (.object "Foldrose$Row")), Cond.classLink RX9 387 "java/lang/IndexOutOfBoundsException", Cond.initialized "java/lang/IndexOutOfBoundsException", Cond.fieldLink RX9 368 "Foldrose" "wordCount" "I", Cond.fieldLink RX9 15 "Foldrose" "words" "[LFoldrose$Row;", Cond.methodLink RX9 107 yX7_clear, Cond.instanceMethod yX7_clear, Cond.selects RX7 yX7_clear yX7_clear, Cond.initialized RX7, Cond.code yX7_clear cX7_clear 1 none, Cond.fieldLink RX7 15 "Foldrose$Row" "size" "I", Cond.methodLink RX9 152 yX7_addRow, Cond.instanceMethod yX7_addRow, Cond.selects RX7 yX7_addRow yX7_addRow, Cond.code yX7_addRow cX7_addRow 4 none, Cond.fieldLink RX7 9 "Foldrose$Row" "letters" "[B", Cond.methodLink RX7 19 yX7_add]
def wsX9_power_r2 : List Cond := [Cond.instanceMethod yX7_add, Cond.selects RX7 yX7_add yX7_add, Cond.code yX7_add cX7_add 2 none, Cond.methodLink RX9 143 yX7_addInverse, Cond.instanceMethod yX7_addInverse, Cond.selects RX7 yX7_addInverse yX7_addInverse, Cond.code yX7_addInverse cX7_addInverse 3 none, Cond.methodLink RX9 113 yX9_keep, Cond.instanceMethod yX9_keep, Cond.selects RX9 yX9_keep yX9_keep, Cond.code yX9_keep cX9_keep 2 (some .int), Cond.classLink RX9 100 "java/lang/IllegalStateException", Cond.initialized "java/lang/IllegalStateException", Cond.fieldLink RX9 121 "Foldrose$Row" "size" "I", Cond.methodLink RX9 329 yX7_set, Cond.instanceMethod yX7_set, Cond.selects RX7 yX7_set yX7_set, Cond.code yX7_set cX7_set 3 none]
def wsX9_power : List Cond := .code yX9_power cX9_power 5 (some .int) :: ((wsX9_power_r1 ++ wsX9_power_r2) ++ wsX90 ++ wsX70 ++ (vx_atS RX9 151 "java/lang/IllegalArgumentException" ["java/lang/RuntimeException", "java/lang/Exception"]).filter goodWord ++ (vx_atS RX9 391 "java/lang/IndexOutOfBoundsException" ["java/lang/RuntimeException", "java/lang/Exception"]).filter goodWord ++ (vx_atM "java/lang/ArrayIndexOutOfBoundsException" ["java/lang/IndexOutOfBoundsException", "java/lang/RuntimeException", "java/lang/Exception"]).filter goodWord ++ (vx_atS RX9 104 "java/lang/IllegalStateException" ["java/lang/RuntimeException", "java/lang/Exception"]).filter goodWord)
def wsX9_core : List Cond := .code yX9_core cX9_core 2 (some .int) :: ([.methodLink RX9 117 yX9_wordAt, .instanceMethod yX9_wordAt, .selects RX9 yX9_wordAt yX9_wordAt, .initialized RX9, .code yX9_wordAt cX9_wordAt 2 (some (.object "Foldrose$Row")), .classLink RX9 387 "java/lang/IndexOutOfBoundsException", .initialized "java/lang/IndexOutOfBoundsException", .fieldLink RX9 368 "Foldrose" "wordCount" "I", .fieldLink RX9 15 "Foldrose" "words" "[LFoldrose$Row;", .methodLink RX9 155 yX7_coreSize, .instanceMethod yX7_coreSize, .selects RX7 yX7_coreSize yX7_coreSize, .initialized RX7, .code yX7_coreSize cX7_coreSize 1 (some .int), .fieldLink RX7 15 "Foldrose$Row" "size" "I", .methodLink RX7 23 yX7_coreStart, .instanceMethod yX7_coreStart, .selects RX7 yX7_coreStart yX7_coreStart, .code yX7_coreStart cX7_coreStart 2 (some .int), .fieldLink RX7 9 "Foldrose$Row" "letters" "[B"] ++ wsX90 ++ wsX70 ++ (vx_atS RX9 391 "java/lang/IndexOutOfBoundsException" ["java/lang/RuntimeException", "java/lang/Exception"]).filter goodWord ++ (vx_atM "java/lang/ArrayIndexOutOfBoundsException" ["java/lang/IndexOutOfBoundsException", "java/lang/RuntimeException", "java/lang/Exception"]).filter goodWord)
def wsX9_exponent_r1 : List Cond := [Cond.classLink RX9 124 "java/util/NoSuchElementException", Cond.initialized "java/util/NoSuchElementException", Cond.fieldLink RX9 121 "Foldrose$Row" "size" "I", Cond.methodLink RX9 117 yX9_wordAt, Cond.instanceMethod yX9_wordAt, Cond.selects RX9 yX9_wordAt yX9_wordAt, Cond.initialized RX9, Cond.code yX9_wordAt cX9_wordAt 2 (some (.object "Foldrose$Row")), Cond.classLink RX9 387 "java/lang/IndexOutOfBoundsException", Cond.initialized "java/lang/IndexOutOfBoundsException", Cond.fieldLink RX9 368 "Foldrose" "wordCount" "I", Cond.fieldLink RX9 15 "Foldrose" "words" "[LFoldrose$Row;", Cond.methodLink RX9 161 yX7_corePeriod, Cond.instanceMethod yX7_corePeriod, Cond.selects RX7 yX7_corePeriod yX7_corePeriod, Cond.initialized RX7, Cond.code yX7_corePeriod cX7_corePeriod 4 (some .int), Cond.fieldLink RX7 15 "Foldrose$Row" "size" "I", Cond.methodLink RX7 23 yX7_coreStart, Cond.instanceMethod yX7_coreStart, Cond.selects RX7 yX7_coreStart yX7_coreStart, Cond.code yX7_coreStart cX7_coreStart 2 (some .int), Cond.fieldLink RX7 9 "Foldrose$Row" "letters" "[B", Cond.methodLink RX7 27 yX7_repeats]
def wsX9_exponent_r2 : List Cond := [Cond.instanceMethod yX7_repeats, Cond.selects RX7 yX7_repeats yX7_repeats, Cond.code yX7_repeats cX7_repeats 5 (some .boolean), Cond.methodLink RX9 155 yX7_coreSize, Cond.instanceMethod yX7_coreSize, Cond.selects RX7 yX7_coreSize yX7_coreSize, Cond.code yX7_coreSize cX7_coreSize 1 (some .int)]
def wsX9_exponent : List Cond := .code yX9_exponent cX9_exponent 4 (some .int) :: ((wsX9_exponent_r1 ++ wsX9_exponent_r2) ++ wsX70 ++ wsX90 ++ fz_atN.filter goodWord ++ (vx_atS RX9 391 "java/lang/IndexOutOfBoundsException" ["java/lang/RuntimeException", "java/lang/Exception"]).filter goodWord ++ (vx_atM "java/lang/ArrayIndexOutOfBoundsException" ["java/lang/IndexOutOfBoundsException", "java/lang/RuntimeException", "java/lang/Exception"]).filter goodWord)
def wsX9_sum : List Cond := .code yX9_sum cX9_sum 4 (some .int) :: ([.methodLink RX9 117 yX9_wordAt, .instanceMethod yX9_wordAt, .selects RX9 yX9_wordAt yX9_wordAt, .initialized RX9, .code yX9_wordAt cX9_wordAt 2 (some (.object "Foldrose$Row")), .classLink RX9 387 "java/lang/IndexOutOfBoundsException", .initialized "java/lang/IndexOutOfBoundsException", .fieldLink RX9 368 "Foldrose" "wordCount" "I", .fieldLink RX9 15 "Foldrose" "words" "[LFoldrose$Row;", .methodLink RX9 92 yX9_codeOf, .instanceMethod yX9_codeOf, .selects RX9 yX9_codeOf yX9_codeOf, .code yX9_codeOf cX9_codeOf 3 (some .int), .classLink RX9 147 "java/lang/IllegalArgumentException", .initialized "java/lang/IllegalArgumentException", .fieldLink RX9 129 "Foldrose" "SIGNS" "[C", .methodLink RX9 164 yX7_sumOf, .instanceMethod yX7_sumOf, .selects RX7 yX7_sumOf yX7_sumOf, .initialized RX7, .code yX7_sumOf cX7_sumOf 4 (some .int), .fieldLink RX7 15 "Foldrose$Row" "size" "I", .fieldLink RX7 9 "Foldrose$Row" "letters" "[B"] ++ wsX90 ++ wsX70 ++ (vx_atS RX9 391 "java/lang/IndexOutOfBoundsException" ["java/lang/RuntimeException", "java/lang/Exception"]).filter goodWord ++ (vx_atM "java/lang/ArrayIndexOutOfBoundsException" ["java/lang/IndexOutOfBoundsException", "java/lang/RuntimeException", "java/lang/Exception"]).filter goodWord ++ (vx_atS RX9 151 "java/lang/IllegalArgumentException" ["java/lang/RuntimeException", "java/lang/Exception"]).filter goodWord)
def wsX9_commute_r1 : List Cond := [Cond.fieldLink RX9 41 "Foldrose" "draft" "LFoldrose$Row;", Cond.fieldLink RX9 45 "Foldrose" "second" "LFoldrose$Row;", Cond.methodLink RX9 117 yX9_wordAt, Cond.instanceMethod yX9_wordAt, Cond.selects RX9 yX9_wordAt yX9_wordAt, Cond.initialized RX9, Cond.code yX9_wordAt cX9_wordAt 2 (some (.object "Foldrose$Row")), Cond.classLink RX9 387 "java/lang/IndexOutOfBoundsException", Cond.initialized "java/lang/IndexOutOfBoundsException", Cond.fieldLink RX9 368 "Foldrose" "wordCount" "I", Cond.fieldLink RX9 15 "Foldrose" "words" "[LFoldrose$Row;", Cond.methodLink RX9 139 yX9_setProduct, Cond.static yX9_setProduct, Cond.code yX9_setProduct cX9_setProduct 3 none, Cond.methodLink RX9 107 yX7_clear, Cond.instanceMethod yX7_clear, Cond.selects RX7 yX7_clear yX7_clear, Cond.initialized RX7, Cond.code yX7_clear cX7_clear 1 none, Cond.fieldLink RX7 15 "Foldrose$Row" "size" "I", Cond.methodLink RX9 152 yX7_addRow, Cond.instanceMethod yX7_addRow, Cond.selects RX7 yX7_addRow yX7_addRow, Cond.code yX7_addRow cX7_addRow 4 none]
def wsX9_commute_r2 : List Cond := [Cond.fieldLink RX7 9 "Foldrose$Row" "letters" "[B", Cond.methodLink RX7 19 yX7_add, Cond.instanceMethod yX7_add, Cond.selects RX7 yX7_add yX7_add, Cond.code yX7_add cX7_add 2 none, Cond.methodLink RX9 136 yX7_orderTo, Cond.instanceMethod yX7_orderTo, Cond.selects RX7 yX7_orderTo yX7_orderTo, Cond.code yX7_orderTo cX7_orderTo 3 (some .int)]
def wsX9_commute : List Cond := .code yX9_commute cX9_commute 5 (some .boolean) :: ((wsX9_commute_r1 ++ wsX9_commute_r2) ++ wsX90 ++ wsX70 ++ (vx_atS RX9 391 "java/lang/IndexOutOfBoundsException" ["java/lang/RuntimeException", "java/lang/Exception"]).filter goodWord ++ (vx_atM "java/lang/ArrayIndexOutOfBoundsException" ["java/lang/IndexOutOfBoundsException", "java/lang/RuntimeException", "java/lang/Exception"]).filter goodWord)
def wsX9_setConjugator_r1 : List Cond := [Cond.methodLink RX9 177 yX7_coreStart, Cond.instanceMethod yX7_coreStart, Cond.selects RX7 yX7_coreStart yX7_coreStart, Cond.initialized RX7, Cond.code yX7_coreStart cX7_coreStart 2 (some .int), Cond.fieldLink RX7 15 "Foldrose$Row" "size" "I", Cond.fieldLink RX7 9 "Foldrose$Row" "letters" "[B", Cond.methodLink RX9 107 yX7_clear, Cond.instanceMethod yX7_clear, Cond.selects RX7 yX7_clear yX7_clear, Cond.code yX7_clear cX7_clear 1 none, Cond.methodLink RX9 180 yX7_addPart, Cond.instanceMethod yX7_addPart, Cond.selects RX7 yX7_addPart yX7_addPart, Cond.code yX7_addPart cX7_addPart 6 none, Cond.methodLink RX7 19 yX7_add, Cond.instanceMethod yX7_add, Cond.selects RX7 yX7_add yX7_add, Cond.code yX7_add cX7_add 2 none, Cond.methodLink RX9 161 yX7_corePeriod, Cond.instanceMethod yX7_corePeriod, Cond.selects RX7 yX7_corePeriod yX7_corePeriod, Cond.code yX7_corePeriod cX7_corePeriod 4 (some .int), Cond.methodLink RX7 23 yX7_coreStart]
def wsX9_setConjugator_r2 : List Cond := [Cond.methodLink RX7 27 yX7_repeats, Cond.instanceMethod yX7_repeats, Cond.selects RX7 yX7_repeats yX7_repeats, Cond.code yX7_repeats cX7_repeats 5 (some .boolean), Cond.methodLink RX9 184 yX7_addPartInverse, Cond.instanceMethod yX7_addPartInverse, Cond.selects RX7 yX7_addPartInverse yX7_addPartInverse, Cond.code yX7_addPartInverse cX7_addPartInverse 6 none]
def wsX9_setConjugator : List Cond := .code yX9_setConjugator cX9_setConjugator 7 none :: ((wsX9_setConjugator_r1 ++ wsX9_setConjugator_r2) ++ wsX70 ++ (vx_atM "java/lang/ArrayIndexOutOfBoundsException" ["java/lang/IndexOutOfBoundsException", "java/lang/RuntimeException", "java/lang/Exception"]).filter goodWord)
def wsX9_conjugator_r1 : List Cond := [Cond.classLink RX9 124 "java/util/NoSuchElementException", Cond.initialized "java/util/NoSuchElementException", Cond.fieldLink RX9 41 "Foldrose" "draft" "LFoldrose$Row;", Cond.fieldLink RX9 45 "Foldrose" "second" "LFoldrose$Row;", Cond.methodLink RX9 117 yX9_wordAt, Cond.instanceMethod yX9_wordAt, Cond.selects RX9 yX9_wordAt yX9_wordAt, Cond.initialized RX9, Cond.code yX9_wordAt cX9_wordAt 2 (some (.object "Foldrose$Row")), Cond.classLink RX9 387 "java/lang/IndexOutOfBoundsException", Cond.initialized "java/lang/IndexOutOfBoundsException", Cond.fieldLink RX9 368 "Foldrose" "wordCount" "I", Cond.fieldLink RX9 15 "Foldrose" "words" "[LFoldrose$Row;", Cond.methodLink RX9 168 yX7_turnOfCore, Cond.instanceMethod yX7_turnOfCore, Cond.selects RX7 yX7_turnOfCore yX7_turnOfCore, Cond.initialized RX7, Cond.code yX7_turnOfCore cX7_turnOfCore 4 (some .int), Cond.methodLink RX7 31 yX7_coreSize, Cond.instanceMethod yX7_coreSize, Cond.selects RX7 yX7_coreSize yX7_coreSize, Cond.code yX7_coreSize cX7_coreSize 1 (some .int), Cond.fieldLink RX7 15 "Foldrose$Row" "size" "I", Cond.methodLink RX7 23 yX7_coreStart]
def wsX9_conjugator_r2 : List Cond := [Cond.instanceMethod yX7_coreStart, Cond.selects RX7 yX7_coreStart yX7_coreStart, Cond.code yX7_coreStart cX7_coreStart 2 (some .int), Cond.fieldLink RX7 9 "Foldrose$Row" "letters" "[B", Cond.methodLink RX7 34 yX7_isTurned, Cond.instanceMethod yX7_isTurned, Cond.selects RX7 yX7_isTurned yX7_isTurned, Cond.code yX7_isTurned cX7_isTurned 8 (some .boolean), Cond.methodLink RX9 173 yX9_setConjugator, Cond.instanceMethod yX9_setConjugator, Cond.selects RX9 yX9_setConjugator yX9_setConjugator, Cond.code yX9_setConjugator cX9_setConjugator 7 none, Cond.methodLink RX9 177 yX7_coreStart, Cond.methodLink RX9 107 yX7_clear, Cond.instanceMethod yX7_clear, Cond.selects RX7 yX7_clear yX7_clear, Cond.code yX7_clear cX7_clear 1 none, Cond.methodLink RX9 180 yX7_addPart, Cond.instanceMethod yX7_addPart, Cond.selects RX7 yX7_addPart yX7_addPart, Cond.code yX7_addPart cX7_addPart 6 none, Cond.methodLink RX7 19 yX7_add, Cond.instanceMethod yX7_add, Cond.selects RX7 yX7_add yX7_add]
def wsX9_conjugator_r3 : List Cond := [Cond.code yX7_add cX7_add 2 none, Cond.methodLink RX9 161 yX7_corePeriod, Cond.instanceMethod yX7_corePeriod, Cond.selects RX7 yX7_corePeriod yX7_corePeriod, Cond.code yX7_corePeriod cX7_corePeriod 4 (some .int), Cond.methodLink RX7 27 yX7_repeats, Cond.instanceMethod yX7_repeats, Cond.selects RX7 yX7_repeats yX7_repeats, Cond.code yX7_repeats cX7_repeats 5 (some .boolean), Cond.methodLink RX9 184 yX7_addPartInverse, Cond.instanceMethod yX7_addPartInverse, Cond.selects RX7 yX7_addPartInverse yX7_addPartInverse, Cond.code yX7_addPartInverse cX7_addPartInverse 6 none, Cond.methodLink RX9 136 yX7_orderTo, Cond.instanceMethod yX7_orderTo, Cond.selects RX7 yX7_orderTo yX7_orderTo, Cond.code yX7_orderTo cX7_orderTo 3 (some .int), Cond.methodLink RX9 113 yX9_keep, Cond.instanceMethod yX9_keep, Cond.selects RX9 yX9_keep yX9_keep, Cond.code yX9_keep cX9_keep 2 (some .int), Cond.classLink RX9 100 "java/lang/IllegalStateException", Cond.initialized "java/lang/IllegalStateException", Cond.fieldLink RX9 121 "Foldrose$Row" "size" "I"]
def wsX9_conjugator_r4 : List Cond := [Cond.methodLink RX9 329 yX7_set, Cond.instanceMethod yX7_set, Cond.selects RX7 yX7_set yX7_set, Cond.code yX7_set cX7_set 3 none]
def wsX9_conjugator : List Cond := .code yX9_conjugator cX9_conjugator 6 (some .int) :: ((wsX9_conjugator_r1 ++ (wsX9_conjugator_r2 ++ (wsX9_conjugator_r3 ++ wsX9_conjugator_r4))) ++ wsX90 ++ wsX70 ++ fz_atN.filter goodWord ++ (vx_atS RX9 391 "java/lang/IndexOutOfBoundsException" ["java/lang/RuntimeException", "java/lang/Exception"]).filter goodWord ++ (vx_atM "java/lang/ArrayIndexOutOfBoundsException" ["java/lang/IndexOutOfBoundsException", "java/lang/RuntimeException", "java/lang/Exception"]).filter goodWord ++ (vx_atS RX9 104 "java/lang/IllegalStateException" ["java/lang/RuntimeException", "java/lang/Exception"]).filter goodWord)
def wsX9_isSound_r1 : List Cond := [Cond.fieldLink RX9 368 "Foldrose" "wordCount" "I", Cond.fieldLink RX9 15 "Foldrose" "words" "[LFoldrose$Row;", Cond.fieldLink RX9 373 "Foldrose" "groupCount" "I", Cond.fieldLink RX9 28 "Foldrose" "groups" "[LFoldrose$Group;", Cond.fieldLink RX9 314 "Foldrose" "mapCount" "I", Cond.fieldLink RX9 34 "Foldrose" "maps" "[LFoldrose$Images;", Cond.fieldLink RX9 326 "Foldrose$Images" "rows" "[LFoldrose$Row;", Cond.methodLink RX9 381 yX7_isCancelled, Cond.instanceMethod yX7_isCancelled, Cond.selects RX7 yX7_isCancelled yX7_isCancelled, Cond.initialized RX7, Cond.code yX7_isCancelled cX7_isCancelled 2 (some .boolean), Cond.fieldLink RX7 15 "Foldrose$Row" "size" "I", Cond.fieldLink RX7 9 "Foldrose$Row" "letters" "[B", Cond.methodLink RX9 384 yX2_isConsistent, Cond.instanceMethod yX2_isConsistent, Cond.selects RX2 yX2_isConsistent yX2_isConsistent, Cond.initialized RX2, Cond.code yX2_isConsistent cX2_isConsistent 3 (some .boolean), Cond.fieldLink RX2 12 "Foldrose$Group" "graph" "LFoldrose$Graph;", Cond.fieldLink RX2 35 "Foldrose$Graph" "loopCount" "I", Cond.fieldLink RX2 53 "Foldrose$Graph" "size" "I", Cond.fieldLink RX2 27 "Foldrose$Group" "generatorCount" "I", Cond.fieldLink RX2 20 "Foldrose$Group" "generators" "[LFoldrose$Row;"]
def wsX9_isSound_r2 : List Cond := [Cond.methodLink RX2 45 yX1_leadsBack, Cond.instanceMethod yX1_leadsBack, Cond.selects RX1 yX1_leadsBack yX1_leadsBack, Cond.initialized RX1, Cond.code yX1_leadsBack cX1_leadsBack 4 (some .boolean), Cond.fieldLink RX1 33 "Foldrose$Graph" "size" "I", Cond.methodLink RX1 42 yX1_step, Cond.instanceMethod yX1_step, Cond.selects RX1 yX1_step yX1_step, Cond.code yX1_step cX1_step 3 (some .int), Cond.fieldLink RX1 9 "Foldrose$Graph" "ends" "[I", Cond.methodLink RX2 49 yX1_edgeCount, Cond.instanceMethod yX1_edgeCount, Cond.selects RX1 yX1_edgeCount yX1_edgeCount, Cond.code yX1_edgeCount cX1_edgeCount 4 (some .int), Cond.methodLink RX2 56 yX1_walk, Cond.instanceMethod yX1_walk, Cond.selects RX1 yX1_walk yX1_walk, Cond.code yX1_walk cX1_walk 4 (some .int), Cond.fieldLink RX1 37 "Foldrose$Row" "size" "I", Cond.fieldLink RX1 38 "Foldrose$Row" "letters" "[B"]
def wsX9_isSound : List Cond := .code yX9_isSound cX9_isSound 4 (some .boolean) :: ((wsX9_isSound_r1 ++ wsX9_isSound_r2) ++ wsX90 ++ wsX30 ++ wsX70 ++ wsX20 ++ wsX10 ++ (vx_atM "java/lang/ArrayIndexOutOfBoundsException" ["java/lang/IndexOutOfBoundsException", "java/lang/RuntimeException", "java/lang/Exception"]).filter goodWord)
def wsJx00060_init_a7421 : List Cond := .code yJx00060_init_a7421 cJx00060_init_a7421 2 none :: ([])
def wsJ0_isLatin1_aae02 : List Cond := .code yJ0_isLatin1_aae02 cJ0_isLatin1_aae02 1 (some .boolean) :: ([.fieldLink RJ0 38 "java/lang/String" "COMPACT_STRINGS" "Z", .fieldLink RJ0 15 "java/lang/String" "coder" "B"] ++ wsJ00)
def wsJ3_checkIndex_8e157 : List Cond := .code yJ3_checkIndex_8e157 cJ3_checkIndex_8e157 3 (some .int) :: ([])
def wsJ0_checkIndex_df160 : List Cond := .code yJ0_checkIndex_df160 cJ0_checkIndex_df160 2 none :: ([.fieldLink RJ0 1053 "jdk/internal/util/Preconditions" "SIOOBE_FORMATTER" "Ljava/util/function/BiFunction;", .methodLink RJ0 1059 yJ3_checkIndex_8e157, .static yJ3_checkIndex_8e157, .initialized RJ3, .code yJ3_checkIndex_8e157 cJ3_checkIndex_8e157 3 (some .int)])
def wsJ1_charAt_3b067 : List Cond := .code yJ1_charAt_3b067 cJ1_charAt_3b067 2 (some .char) :: ([.methodLink RJ1 9 yJ0_checkIndex_df160, .static yJ0_checkIndex_df160, .initialized RJ0, .code yJ0_checkIndex_df160 cJ0_checkIndex_df160 2 none, .fieldLink RJ0 1053 "jdk/internal/util/Preconditions" "SIOOBE_FORMATTER" "Ljava/util/function/BiFunction;", .methodLink RJ0 1059 yJ3_checkIndex_8e157, .static yJ3_checkIndex_8e157, .initialized RJ3, .code yJ3_checkIndex_8e157 cJ3_checkIndex_8e157 3 (some .int)])
def wsJ2_length_9d52b : List Cond := .code yJ2_length_9d52b cJ2_length_9d52b 1 (some .int) :: ([])
def wsJ2_checkIndex_2214a : List Cond := .code yJ2_checkIndex_2214a cJ2_checkIndex_2214a 2 none :: ([.methodLink RJ2 48 yJ2_length_9d52b, .static yJ2_length_9d52b, .initialized RJ2, .code yJ2_length_9d52b cJ2_length_9d52b 1 (some .int), .methodLink RJ2 414 yJ0_checkIndex_df160, .static yJ0_checkIndex_df160, .initialized RJ0, .code yJ0_checkIndex_df160 cJ0_checkIndex_df160 2 none, .fieldLink RJ0 1053 "jdk/internal/util/Preconditions" "SIOOBE_FORMATTER" "Ljava/util/function/BiFunction;", .methodLink RJ0 1059 yJ3_checkIndex_8e157, .static yJ3_checkIndex_8e157, .initialized RJ3, .code yJ3_checkIndex_8e157 cJ3_checkIndex_8e157 3 (some .int)])
def wsJ2_getChar_3b067 : List Cond := .code yJ2_getChar_3b067 cJ2_getChar_3b067 2 (some .char) :: ([.fieldLink RJ2 44 "java/lang/StringUTF16" "$assertionsDisabled" "Z", .fieldLink RJ2 59 "java/lang/StringUTF16" "HI_BYTE_SHIFT" "I", .fieldLink RJ2 63 "java/lang/StringUTF16" "LO_BYTE_SHIFT" "I", .methodLink RJ2 48 yJ2_length_9d52b, .static yJ2_length_9d52b, .initialized RJ2, .code yJ2_length_9d52b cJ2_length_9d52b 1 (some .int)])
def wsJ2_charAt_3b067 : List Cond := .code yJ2_charAt_3b067 cJ2_charAt_3b067 2 (some .char) :: ([.methodLink RJ2 67 yJ2_checkIndex_2214a, .static yJ2_checkIndex_2214a, .initialized RJ2, .code yJ2_checkIndex_2214a cJ2_checkIndex_2214a 2 none, .methodLink RJ2 48 yJ2_length_9d52b, .static yJ2_length_9d52b, .code yJ2_length_9d52b cJ2_length_9d52b 1 (some .int), .methodLink RJ2 414 yJ0_checkIndex_df160, .static yJ0_checkIndex_df160, .initialized RJ0, .code yJ0_checkIndex_df160 cJ0_checkIndex_df160 2 none, .fieldLink RJ0 1053 "jdk/internal/util/Preconditions" "SIOOBE_FORMATTER" "Ljava/util/function/BiFunction;", .methodLink RJ0 1059 yJ3_checkIndex_8e157, .static yJ3_checkIndex_8e157, .initialized RJ3, .code yJ3_checkIndex_8e157 cJ3_checkIndex_8e157 3 (some .int), .methodLink RJ2 71 yJ2_getChar_3b067, .static yJ2_getChar_3b067, .code yJ2_getChar_3b067 cJ2_getChar_3b067 2 (some .char), .fieldLink RJ2 44 "java/lang/StringUTF16" "$assertionsDisabled" "Z", .fieldLink RJ2 59 "java/lang/StringUTF16" "HI_BYTE_SHIFT" "I", .fieldLink RJ2 63 "java/lang/StringUTF16" "LO_BYTE_SHIFT" "I"])
def wsJ0_charAt_5068e_r1 : List Cond := [Cond.fieldLink RJ0 9 "java/lang/String" "value" "[B", Cond.methodLink RJ0 492 yJ0_isLatin1_aae02, Cond.instanceMethod yJ0_isLatin1_aae02, Cond.selects RJ0 yJ0_isLatin1_aae02 yJ0_isLatin1_aae02, Cond.initialized RJ0, Cond.code yJ0_isLatin1_aae02 cJ0_isLatin1_aae02 1 (some .boolean), Cond.fieldLink RJ0 38 "java/lang/String" "COMPACT_STRINGS" "Z", Cond.fieldLink RJ0 15 "java/lang/String" "coder" "B", Cond.methodLink RJ0 495 yJ1_charAt_3b067, Cond.static yJ1_charAt_3b067, Cond.initialized RJ1, Cond.code yJ1_charAt_3b067 cJ1_charAt_3b067 2 (some .char), Cond.methodLink RJ1 9 yJ0_checkIndex_df160, Cond.static yJ0_checkIndex_df160, Cond.code yJ0_checkIndex_df160 cJ0_checkIndex_df160 2 none, Cond.fieldLink RJ0 1053 "jdk/internal/util/Preconditions" "SIOOBE_FORMATTER" "Ljava/util/function/BiFunction;", Cond.methodLink RJ0 1059 yJ3_checkIndex_8e157, Cond.static yJ3_checkIndex_8e157, Cond.initialized RJ3, Cond.code yJ3_checkIndex_8e157 cJ3_checkIndex_8e157 3 (some .int), Cond.methodLink RJ0 498 yJ2_charAt_3b067, Cond.static yJ2_charAt_3b067, Cond.initialized RJ2, Cond.code yJ2_charAt_3b067 cJ2_charAt_3b067 2 (some .char)]
def wsJ0_charAt_5068e_r2 : List Cond := [Cond.methodLink RJ2 67 yJ2_checkIndex_2214a, Cond.static yJ2_checkIndex_2214a, Cond.code yJ2_checkIndex_2214a cJ2_checkIndex_2214a 2 none, Cond.methodLink RJ2 48 yJ2_length_9d52b, Cond.static yJ2_length_9d52b, Cond.code yJ2_length_9d52b cJ2_length_9d52b 1 (some .int), Cond.methodLink RJ2 414 yJ0_checkIndex_df160, Cond.methodLink RJ2 71 yJ2_getChar_3b067, Cond.static yJ2_getChar_3b067, Cond.code yJ2_getChar_3b067 cJ2_getChar_3b067 2 (some .char), Cond.fieldLink RJ2 44 "java/lang/StringUTF16" "$assertionsDisabled" "Z", Cond.fieldLink RJ2 59 "java/lang/StringUTF16" "HI_BYTE_SHIFT" "I", Cond.fieldLink RJ2 63 "java/lang/StringUTF16" "LO_BYTE_SHIFT" "I"]
def wsJ0_charAt_5068e : List Cond := .code yJ0_charAt_5068e cJ0_charAt_5068e 2 (some .char) :: ((wsJ0_charAt_5068e_r1 ++ wsJ0_charAt_5068e_r2) ++ wsJ00)
def wsL_cell : List Cond := .code yL_cell cL_cell 3 (some .int) :: ([.constant RL 7 (69069), .constant RL 8 (1103515245)] ++ (vx_atM "java/lang/ArrayIndexOutOfBoundsException" ["java/lang/IndexOutOfBoundsException", "java/lang/RuntimeException", "java/lang/Exception"]).filter goodWord)
def wsL_type : List Cond := .codeWith yL_type cL_type 3 (some .int) [(0, 5, 6, 15), (0, 5, 10, 18)] :: ([.classLink RL 15 "java/lang/IllegalArgumentException", .classLink RL 18 "java/lang/IllegalStateException", .constant RL 17 (-900001), .constant RL 20 (-900002), .methodLink RL 9 yX9_type, .instanceMethod yX9_type, .selects RX9 yX9_type yX9_type, .initialized RX9, .code yX9_type cX9_type 3 (some .int), .classLink RX9 100 "java/lang/IllegalStateException", .initialized "java/lang/IllegalStateException", .fieldLink RX9 96 "Foldrose" "typedCount" "I", .fieldLink RX9 9 "Foldrose" "typed" "[B", .methodLink RX9 92 yX9_codeOf, .instanceMethod yX9_codeOf, .selects RX9 yX9_codeOf yX9_codeOf, .code yX9_codeOf cX9_codeOf 3 (some .int), .classLink RX9 147 "java/lang/IllegalArgumentException", .initialized "java/lang/IllegalArgumentException", .fieldLink RX9 129 "Foldrose" "SIGNS" "[C"] ++ wsX90 ++ (vx_atS RX9 104 "java/lang/IllegalStateException" ["java/lang/RuntimeException", "java/lang/Exception"]).filter goodWord ++ (vx_atM "java/lang/ArrayIndexOutOfBoundsException" ["java/lang/IndexOutOfBoundsException", "java/lang/RuntimeException", "java/lang/Exception"]).filter goodWord ++ (vx_atS RX9 151 "java/lang/IllegalArgumentException" ["java/lang/RuntimeException", "java/lang/Exception"]).filter goodWord)
def wsL_word_r1 : List Cond := [Cond.classLink RL 18 "java/lang/IllegalStateException", Cond.constant RL 17 (-900001), Cond.methodLink RL 21 yX9_word, Cond.instanceMethod yX9_word, Cond.selects RX9 yX9_word yX9_word, Cond.initialized RX9, Cond.code yX9_word cX9_word 2 (some .int), Cond.fieldLink RX9 41 "Foldrose" "draft" "LFoldrose$Row;", Cond.fieldLink RX9 96 "Foldrose" "typedCount" "I", Cond.fieldLink RX9 9 "Foldrose" "typed" "[B", Cond.methodLink RX9 107 yX7_clear, Cond.instanceMethod yX7_clear, Cond.selects RX7 yX7_clear yX7_clear, Cond.initialized RX7, Cond.code yX7_clear cX7_clear 1 none, Cond.fieldLink RX7 15 "Foldrose$Row" "size" "I", Cond.methodLink RX9 110 yX7_add, Cond.instanceMethod yX7_add, Cond.selects RX7 yX7_add yX7_add, Cond.code yX7_add cX7_add 2 none, Cond.fieldLink RX7 9 "Foldrose$Row" "letters" "[B", Cond.methodLink RX9 113 yX9_keep, Cond.instanceMethod yX9_keep, Cond.selects RX9 yX9_keep yX9_keep]
def wsL_word_r2 : List Cond := [Cond.code yX9_keep cX9_keep 2 (some .int), Cond.classLink RX9 100 "java/lang/IllegalStateException", Cond.initialized "java/lang/IllegalStateException", Cond.fieldLink RX9 368 "Foldrose" "wordCount" "I", Cond.fieldLink RX9 121 "Foldrose$Row" "size" "I", Cond.fieldLink RX9 15 "Foldrose" "words" "[LFoldrose$Row;", Cond.methodLink RX9 329 yX7_set, Cond.instanceMethod yX7_set, Cond.selects RX7 yX7_set yX7_set, Cond.code yX7_set cX7_set 3 none]
def wsL_word : List Cond := .codeWith yL_word cL_word 2 (some .int) [(0, 4, 5, 18)] :: ((wsL_word_r1 ++ wsL_word_r2) ++ wsX90 ++ wsX70 ++ (vx_atM "java/lang/ArrayIndexOutOfBoundsException" ["java/lang/IndexOutOfBoundsException", "java/lang/RuntimeException", "java/lang/Exception"]).filter goodWord ++ (vx_atS RX9 104 "java/lang/IllegalStateException" ["java/lang/RuntimeException", "java/lang/Exception"]).filter goodWord)
def wsL_length : List Cond := .codeWith yL_length cL_length 3 (some .int) [(0, 5, 6, 29)] :: ([.classLink RL 29 "java/lang/IndexOutOfBoundsException", .constant RL 17 (-900001), .methodLink RL 25 yX9_length, .instanceMethod yX9_length, .selects RX9 yX9_length yX9_length, .initialized RX9, .code yX9_length cX9_length 2 (some .int), .fieldLink RX9 121 "Foldrose$Row" "size" "I", .methodLink RX9 117 yX9_wordAt, .instanceMethod yX9_wordAt, .selects RX9 yX9_wordAt yX9_wordAt, .code yX9_wordAt cX9_wordAt 2 (some (.object "Foldrose$Row")), .classLink RX9 387 "java/lang/IndexOutOfBoundsException", .initialized "java/lang/IndexOutOfBoundsException", .fieldLink RX9 368 "Foldrose" "wordCount" "I", .fieldLink RX9 15 "Foldrose" "words" "[LFoldrose$Row;"] ++ wsX70 ++ wsX90 ++ (vx_atS RX9 391 "java/lang/IndexOutOfBoundsException" ["java/lang/RuntimeException", "java/lang/Exception"]).filter goodWord)
def wsL_letter : List Cond := .codeWith yL_letter cL_letter 4 (some .int) [(0, 6, 7, 29), (0, 6, 11, 35)] :: ([.classLink RL 29 "java/lang/IndexOutOfBoundsException", .classLink RL 35 "java/util/NoSuchElementException", .constant RL 17 (-900001), .constant RL 20 (-900002), .methodLink RL 31 yX9_letter, .instanceMethod yX9_letter, .selects RX9 yX9_letter yX9_letter, .initialized RX9, .code yX9_letter cX9_letter 4 (some .char), .classLink RX9 124 "java/util/NoSuchElementException", .initialized "java/util/NoSuchElementException", .fieldLink RX9 121 "Foldrose$Row" "size" "I", .fieldLink RX9 129 "Foldrose" "SIGNS" "[C", .fieldLink RX9 133 "Foldrose$Row" "letters" "[B", .methodLink RX9 117 yX9_wordAt, .instanceMethod yX9_wordAt, .selects RX9 yX9_wordAt yX9_wordAt, .code yX9_wordAt cX9_wordAt 2 (some (.object "Foldrose$Row")), .classLink RX9 387 "java/lang/IndexOutOfBoundsException", .initialized "java/lang/IndexOutOfBoundsException", .fieldLink RX9 368 "Foldrose" "wordCount" "I", .fieldLink RX9 15 "Foldrose" "words" "[LFoldrose$Row;"] ++ wsX70 ++ wsX90 ++ fz_atN.filter goodWord ++ (vx_atM "java/lang/ArrayIndexOutOfBoundsException" ["java/lang/IndexOutOfBoundsException", "java/lang/RuntimeException", "java/lang/Exception"]).filter goodWord ++ (vx_atS RX9 391 "java/lang/IndexOutOfBoundsException" ["java/lang/RuntimeException", "java/lang/Exception"]).filter goodWord)
def wsL_compare : List Cond := .codeWith yL_compare cL_compare 4 (some .int) [(0, 6, 7, 29)] :: ([.classLink RL 29 "java/lang/IndexOutOfBoundsException", .constant RL 17 (-900001), .methodLink RL 37 yX9_compare, .instanceMethod yX9_compare, .selects RX9 yX9_compare yX9_compare, .initialized RX9, .code yX9_compare cX9_compare 3 (some .int), .methodLink RX9 117 yX9_wordAt, .instanceMethod yX9_wordAt, .selects RX9 yX9_wordAt yX9_wordAt, .code yX9_wordAt cX9_wordAt 2 (some (.object "Foldrose$Row")), .classLink RX9 387 "java/lang/IndexOutOfBoundsException", .initialized "java/lang/IndexOutOfBoundsException", .fieldLink RX9 368 "Foldrose" "wordCount" "I", .fieldLink RX9 15 "Foldrose" "words" "[LFoldrose$Row;", .methodLink RX9 136 yX7_orderTo, .instanceMethod yX7_orderTo, .selects RX7 yX7_orderTo yX7_orderTo, .initialized RX7, .code yX7_orderTo cX7_orderTo 3 (some .int), .fieldLink RX7 15 "Foldrose$Row" "size" "I", .fieldLink RX7 9 "Foldrose$Row" "letters" "[B"] ++ wsX90 ++ wsX70 ++ (vx_atS RX9 391 "java/lang/IndexOutOfBoundsException" ["java/lang/RuntimeException", "java/lang/Exception"]).filter goodWord ++ (vx_atM "java/lang/ArrayIndexOutOfBoundsException" ["java/lang/IndexOutOfBoundsException", "java/lang/RuntimeException", "java/lang/Exception"]).filter goodWord)
def wsL_product_r1 : List Cond := [Cond.classLink RL 29 "java/lang/IndexOutOfBoundsException", Cond.classLink RL 18 "java/lang/IllegalStateException", Cond.constant RL 17 (-900001), Cond.constant RL 20 (-900002), Cond.methodLink RL 41 yX9_product, Cond.instanceMethod yX9_product, Cond.selects RX9 yX9_product yX9_product, Cond.initialized RX9, Cond.code yX9_product cX9_product 3 (some .int), Cond.fieldLink RX9 41 "Foldrose" "draft" "LFoldrose$Row;", Cond.methodLink RX9 117 yX9_wordAt, Cond.instanceMethod yX9_wordAt, Cond.selects RX9 yX9_wordAt yX9_wordAt, Cond.code yX9_wordAt cX9_wordAt 2 (some (.object "Foldrose$Row")), Cond.classLink RX9 387 "java/lang/IndexOutOfBoundsException", Cond.initialized "java/lang/IndexOutOfBoundsException", Cond.fieldLink RX9 368 "Foldrose" "wordCount" "I", Cond.fieldLink RX9 15 "Foldrose" "words" "[LFoldrose$Row;", Cond.methodLink RX9 139 yX9_setProduct, Cond.static yX9_setProduct, Cond.code yX9_setProduct cX9_setProduct 3 none, Cond.methodLink RX9 107 yX7_clear, Cond.instanceMethod yX7_clear, Cond.selects RX7 yX7_clear yX7_clear]
def wsL_product_r2 : List Cond := [Cond.initialized RX7, Cond.code yX7_clear cX7_clear 1 none, Cond.fieldLink RX7 15 "Foldrose$Row" "size" "I", Cond.methodLink RX9 152 yX7_addRow, Cond.instanceMethod yX7_addRow, Cond.selects RX7 yX7_addRow yX7_addRow, Cond.code yX7_addRow cX7_addRow 4 none, Cond.fieldLink RX7 9 "Foldrose$Row" "letters" "[B", Cond.methodLink RX7 19 yX7_add, Cond.instanceMethod yX7_add, Cond.selects RX7 yX7_add yX7_add, Cond.code yX7_add cX7_add 2 none, Cond.methodLink RX9 113 yX9_keep, Cond.instanceMethod yX9_keep, Cond.selects RX9 yX9_keep yX9_keep, Cond.code yX9_keep cX9_keep 2 (some .int), Cond.classLink RX9 100 "java/lang/IllegalStateException", Cond.initialized "java/lang/IllegalStateException", Cond.fieldLink RX9 121 "Foldrose$Row" "size" "I", Cond.methodLink RX9 329 yX7_set, Cond.instanceMethod yX7_set, Cond.selects RX7 yX7_set yX7_set, Cond.code yX7_set cX7_set 3 none]
def wsL_product : List Cond := .codeWith yL_product cL_product 4 (some .int) [(0, 6, 7, 29), (0, 6, 11, 18)] :: ((wsL_product_r1 ++ wsL_product_r2) ++ wsX90 ++ wsX70 ++ (vx_atS RX9 391 "java/lang/IndexOutOfBoundsException" ["java/lang/RuntimeException", "java/lang/Exception"]).filter goodWord ++ (vx_atM "java/lang/ArrayIndexOutOfBoundsException" ["java/lang/IndexOutOfBoundsException", "java/lang/RuntimeException", "java/lang/Exception"]).filter goodWord ++ (vx_atS RX9 104 "java/lang/IllegalStateException" ["java/lang/RuntimeException", "java/lang/Exception"]).filter goodWord)
def wsL_inverse_r1 : List Cond := [Cond.classLink RL 29 "java/lang/IndexOutOfBoundsException", Cond.classLink RL 18 "java/lang/IllegalStateException", Cond.constant RL 17 (-900001), Cond.constant RL 20 (-900002), Cond.methodLink RL 44 yX9_inverse, Cond.instanceMethod yX9_inverse, Cond.selects RX9 yX9_inverse yX9_inverse, Cond.initialized RX9, Cond.code yX9_inverse cX9_inverse 3 (some .int), Cond.fieldLink RX9 41 "Foldrose" "draft" "LFoldrose$Row;", Cond.methodLink RX9 117 yX9_wordAt, Cond.instanceMethod yX9_wordAt, Cond.selects RX9 yX9_wordAt yX9_wordAt, Cond.code yX9_wordAt cX9_wordAt 2 (some (.object "Foldrose$Row")), Cond.classLink RX9 387 "java/lang/IndexOutOfBoundsException", Cond.initialized "java/lang/IndexOutOfBoundsException", Cond.fieldLink RX9 368 "Foldrose" "wordCount" "I", Cond.fieldLink RX9 15 "Foldrose" "words" "[LFoldrose$Row;", Cond.methodLink RX9 107 yX7_clear, Cond.instanceMethod yX7_clear, Cond.selects RX7 yX7_clear yX7_clear, Cond.initialized RX7, Cond.code yX7_clear cX7_clear 1 none, Cond.fieldLink RX7 15 "Foldrose$Row" "size" "I"]
def wsL_inverse_r2 : List Cond := [Cond.methodLink RX9 143 yX7_addInverse, Cond.instanceMethod yX7_addInverse, Cond.selects RX7 yX7_addInverse yX7_addInverse, Cond.code yX7_addInverse cX7_addInverse 3 none, Cond.fieldLink RX7 9 "Foldrose$Row" "letters" "[B", Cond.methodLink RX7 19 yX7_add, Cond.instanceMethod yX7_add, Cond.selects RX7 yX7_add yX7_add, Cond.code yX7_add cX7_add 2 none, Cond.methodLink RX9 113 yX9_keep, Cond.instanceMethod yX9_keep, Cond.selects RX9 yX9_keep yX9_keep, Cond.code yX9_keep cX9_keep 2 (some .int), Cond.classLink RX9 100 "java/lang/IllegalStateException", Cond.initialized "java/lang/IllegalStateException", Cond.fieldLink RX9 121 "Foldrose$Row" "size" "I", Cond.methodLink RX9 329 yX7_set, Cond.instanceMethod yX7_set, Cond.selects RX7 yX7_set yX7_set, Cond.code yX7_set cX7_set 3 none]
def wsL_inverse : List Cond := .codeWith yL_inverse cL_inverse 3 (some .int) [(0, 5, 6, 29), (0, 5, 10, 18)] :: ((wsL_inverse_r1 ++ wsL_inverse_r2) ++ wsX90 ++ wsX70 ++ (vx_atS RX9 391 "java/lang/IndexOutOfBoundsException" ["java/lang/RuntimeException", "java/lang/Exception"]).filter goodWord ++ (vx_atM "java/lang/ArrayIndexOutOfBoundsException" ["java/lang/IndexOutOfBoundsException", "java/lang/RuntimeException", "java/lang/Exception"]).filter goodWord ++ (vx_atS RX9 104 "java/lang/IllegalStateException" ["java/lang/RuntimeException", "java/lang/Exception"]).filter goodWord)
def wsL_power_r1 : List Cond := [Cond.classLink RL 29 "java/lang/IndexOutOfBoundsException", Cond.classLink RL 15 "java/lang/IllegalArgumentException", Cond.classLink RL 18 "java/lang/IllegalStateException", Cond.constant RL 17 (-900001), Cond.constant RL 20 (-900002), Cond.constant RL 50 (-900003), Cond.methodLink RL 47 yX9_power, Cond.instanceMethod yX9_power, Cond.selects RX9 yX9_power yX9_power, Cond.initialized RX9, Cond.code yX9_power cX9_power 5 (some .int), Cond.classLink RX9 147 "java/lang/IllegalArgumentException", Cond.initialized "java/lang/IllegalArgumentException", Cond.fieldLink RX9 41 "Foldrose" "draft" "LFoldrose$Row;", Cond.methodLink RX9 117 yX9_wordAt, Cond.instanceMethod yX9_wordAt, Cond.selects RX9 yX9_wordAt yX9_wordAt, Cond.code yX9_wordAt cX9_wordAt 2 (some (.object "Foldrose$Row")), Cond.classLink RX9 387 "java/lang/IndexOutOfBoundsException", Cond.initialized "java/lang/IndexOutOfBoundsException", Cond.fieldLink RX9 368 "Foldrose" "wordCount" "I", Cond.fieldLink RX9 15 "Foldrose" "words" "[LFoldrose$Row;", Cond.methodLink RX9 107 yX7_clear, Cond.instanceMethod yX7_clear]
def wsL_power_r2 : List Cond := [Cond.selects RX7 yX7_clear yX7_clear, Cond.initialized RX7, Cond.code yX7_clear cX7_clear 1 none, Cond.fieldLink RX7 15 "Foldrose$Row" "size" "I", Cond.methodLink RX9 152 yX7_addRow, Cond.instanceMethod yX7_addRow, Cond.selects RX7 yX7_addRow yX7_addRow, Cond.code yX7_addRow cX7_addRow 4 none, Cond.fieldLink RX7 9 "Foldrose$Row" "letters" "[B", Cond.methodLink RX7 19 yX7_add, Cond.instanceMethod yX7_add, Cond.selects RX7 yX7_add yX7_add, Cond.code yX7_add cX7_add 2 none, Cond.methodLink RX9 143 yX7_addInverse, Cond.instanceMethod yX7_addInverse, Cond.selects RX7 yX7_addInverse yX7_addInverse, Cond.code yX7_addInverse cX7_addInverse 3 none, Cond.methodLink RX9 113 yX9_keep, Cond.instanceMethod yX9_keep, Cond.selects RX9 yX9_keep yX9_keep, Cond.code yX9_keep cX9_keep 2 (some .int), Cond.classLink RX9 100 "java/lang/IllegalStateException", Cond.initialized "java/lang/IllegalStateException", Cond.fieldLink RX9 121 "Foldrose$Row" "size" "I"]
def wsL_power_r3 : List Cond := [Cond.methodLink RX9 329 yX7_set, Cond.instanceMethod yX7_set, Cond.selects RX7 yX7_set yX7_set, Cond.code yX7_set cX7_set 3 none]
def wsL_power : List Cond := .codeWith yL_power cL_power 4 (some .int) [(0, 6, 7, 29), (0, 6, 11, 15), (0, 6, 15, 18)] :: ((wsL_power_r1 ++ (wsL_power_r2 ++ wsL_power_r3)) ++ wsX90 ++ wsX70 ++ (vx_atS RX9 151 "java/lang/IllegalArgumentException" ["java/lang/RuntimeException", "java/lang/Exception"]).filter goodWord ++ (vx_atS RX9 391 "java/lang/IndexOutOfBoundsException" ["java/lang/RuntimeException", "java/lang/Exception"]).filter goodWord ++ (vx_atM "java/lang/ArrayIndexOutOfBoundsException" ["java/lang/IndexOutOfBoundsException", "java/lang/RuntimeException", "java/lang/Exception"]).filter goodWord ++ (vx_atS RX9 104 "java/lang/IllegalStateException" ["java/lang/RuntimeException", "java/lang/Exception"]).filter goodWord)
def wsL_core_r1 : List Cond := [Cond.classLink RL 29 "java/lang/IndexOutOfBoundsException", Cond.constant RL 17 (-900001), Cond.methodLink RL 51 yX9_core, Cond.instanceMethod yX9_core, Cond.selects RX9 yX9_core yX9_core, Cond.initialized RX9, Cond.code yX9_core cX9_core 2 (some .int), Cond.methodLink RX9 117 yX9_wordAt, Cond.instanceMethod yX9_wordAt, Cond.selects RX9 yX9_wordAt yX9_wordAt, Cond.code yX9_wordAt cX9_wordAt 2 (some (.object "Foldrose$Row")), Cond.classLink RX9 387 "java/lang/IndexOutOfBoundsException", Cond.initialized "java/lang/IndexOutOfBoundsException", Cond.fieldLink RX9 368 "Foldrose" "wordCount" "I", Cond.fieldLink RX9 15 "Foldrose" "words" "[LFoldrose$Row;", Cond.methodLink RX9 155 yX7_coreSize, Cond.instanceMethod yX7_coreSize, Cond.selects RX7 yX7_coreSize yX7_coreSize, Cond.initialized RX7, Cond.code yX7_coreSize cX7_coreSize 1 (some .int), Cond.fieldLink RX7 15 "Foldrose$Row" "size" "I", Cond.methodLink RX7 23 yX7_coreStart, Cond.instanceMethod yX7_coreStart, Cond.selects RX7 yX7_coreStart yX7_coreStart]
def wsL_core_r2 : List Cond := [Cond.code yX7_coreStart cX7_coreStart 2 (some .int), Cond.fieldLink RX7 9 "Foldrose$Row" "letters" "[B"]
def wsL_core : List Cond := .codeWith yL_core cL_core 3 (some .int) [(0, 5, 6, 29)] :: ((wsL_core_r1 ++ wsL_core_r2) ++ wsX90 ++ wsX70 ++ (vx_atS RX9 391 "java/lang/IndexOutOfBoundsException" ["java/lang/RuntimeException", "java/lang/Exception"]).filter goodWord ++ (vx_atM "java/lang/ArrayIndexOutOfBoundsException" ["java/lang/IndexOutOfBoundsException", "java/lang/RuntimeException", "java/lang/Exception"]).filter goodWord)
def wsL_exponent_r1 : List Cond := [Cond.classLink RL 29 "java/lang/IndexOutOfBoundsException", Cond.classLink RL 35 "java/util/NoSuchElementException", Cond.constant RL 17 (-900001), Cond.constant RL 20 (-900002), Cond.methodLink RL 54 yX9_exponent, Cond.instanceMethod yX9_exponent, Cond.selects RX9 yX9_exponent yX9_exponent, Cond.initialized RX9, Cond.code yX9_exponent cX9_exponent 4 (some .int), Cond.classLink RX9 124 "java/util/NoSuchElementException", Cond.initialized "java/util/NoSuchElementException", Cond.fieldLink RX9 121 "Foldrose$Row" "size" "I", Cond.methodLink RX9 117 yX9_wordAt, Cond.instanceMethod yX9_wordAt, Cond.selects RX9 yX9_wordAt yX9_wordAt, Cond.code yX9_wordAt cX9_wordAt 2 (some (.object "Foldrose$Row")), Cond.classLink RX9 387 "java/lang/IndexOutOfBoundsException", Cond.initialized "java/lang/IndexOutOfBoundsException", Cond.fieldLink RX9 368 "Foldrose" "wordCount" "I", Cond.fieldLink RX9 15 "Foldrose" "words" "[LFoldrose$Row;", Cond.methodLink RX9 161 yX7_corePeriod, Cond.instanceMethod yX7_corePeriod, Cond.selects RX7 yX7_corePeriod yX7_corePeriod, Cond.initialized RX7]
def wsL_exponent_r2 : List Cond := [Cond.code yX7_corePeriod cX7_corePeriod 4 (some .int), Cond.fieldLink RX7 15 "Foldrose$Row" "size" "I", Cond.methodLink RX7 23 yX7_coreStart, Cond.instanceMethod yX7_coreStart, Cond.selects RX7 yX7_coreStart yX7_coreStart, Cond.code yX7_coreStart cX7_coreStart 2 (some .int), Cond.fieldLink RX7 9 "Foldrose$Row" "letters" "[B", Cond.methodLink RX7 27 yX7_repeats, Cond.instanceMethod yX7_repeats, Cond.selects RX7 yX7_repeats yX7_repeats, Cond.code yX7_repeats cX7_repeats 5 (some .boolean), Cond.methodLink RX9 155 yX7_coreSize, Cond.instanceMethod yX7_coreSize, Cond.selects RX7 yX7_coreSize yX7_coreSize, Cond.code yX7_coreSize cX7_coreSize 1 (some .int)]
def wsL_exponent : List Cond := .codeWith yL_exponent cL_exponent 3 (some .int) [(0, 5, 6, 29), (0, 5, 10, 35)] :: ((wsL_exponent_r1 ++ wsL_exponent_r2) ++ wsX70 ++ wsX90 ++ fz_atN.filter goodWord ++ (vx_atS RX9 391 "java/lang/IndexOutOfBoundsException" ["java/lang/RuntimeException", "java/lang/Exception"]).filter goodWord ++ (vx_atM "java/lang/ArrayIndexOutOfBoundsException" ["java/lang/IndexOutOfBoundsException", "java/lang/RuntimeException", "java/lang/Exception"]).filter goodWord)
def wsL_sum_r1 : List Cond := [Cond.classLink RL 29 "java/lang/IndexOutOfBoundsException", Cond.classLink RL 15 "java/lang/IllegalArgumentException", Cond.constant RL 17 (-900001), Cond.constant RL 20 (-900002), Cond.methodLink RL 57 yX9_sum, Cond.instanceMethod yX9_sum, Cond.selects RX9 yX9_sum yX9_sum, Cond.initialized RX9, Cond.code yX9_sum cX9_sum 4 (some .int), Cond.methodLink RX9 117 yX9_wordAt, Cond.instanceMethod yX9_wordAt, Cond.selects RX9 yX9_wordAt yX9_wordAt, Cond.code yX9_wordAt cX9_wordAt 2 (some (.object "Foldrose$Row")), Cond.classLink RX9 387 "java/lang/IndexOutOfBoundsException", Cond.initialized "java/lang/IndexOutOfBoundsException", Cond.fieldLink RX9 368 "Foldrose" "wordCount" "I", Cond.fieldLink RX9 15 "Foldrose" "words" "[LFoldrose$Row;", Cond.methodLink RX9 92 yX9_codeOf, Cond.instanceMethod yX9_codeOf, Cond.selects RX9 yX9_codeOf yX9_codeOf, Cond.code yX9_codeOf cX9_codeOf 3 (some .int), Cond.classLink RX9 147 "java/lang/IllegalArgumentException", Cond.initialized "java/lang/IllegalArgumentException", Cond.fieldLink RX9 129 "Foldrose" "SIGNS" "[C"]
def wsL_sum_r2 : List Cond := [Cond.methodLink RX9 164 yX7_sumOf, Cond.instanceMethod yX7_sumOf, Cond.selects RX7 yX7_sumOf yX7_sumOf, Cond.initialized RX7, Cond.code yX7_sumOf cX7_sumOf 4 (some .int), Cond.fieldLink RX7 15 "Foldrose$Row" "size" "I", Cond.fieldLink RX7 9 "Foldrose$Row" "letters" "[B"]
def wsL_sum : List Cond := .codeWith yL_sum cL_sum 4 (some .int) [(0, 6, 7, 29), (0, 6, 11, 15)] :: ((wsL_sum_r1 ++ wsL_sum_r2) ++ wsX90 ++ wsX70 ++ (vx_atS RX9 391 "java/lang/IndexOutOfBoundsException" ["java/lang/RuntimeException", "java/lang/Exception"]).filter goodWord ++ (vx_atM "java/lang/ArrayIndexOutOfBoundsException" ["java/lang/IndexOutOfBoundsException", "java/lang/RuntimeException", "java/lang/Exception"]).filter goodWord ++ (vx_atS RX9 151 "java/lang/IllegalArgumentException" ["java/lang/RuntimeException", "java/lang/Exception"]).filter goodWord)
def wsL_conjugator_r1 : List Cond := [Cond.classLink RL 29 "java/lang/IndexOutOfBoundsException", Cond.classLink RL 35 "java/util/NoSuchElementException", Cond.classLink RL 18 "java/lang/IllegalStateException", Cond.constant RL 17 (-900001), Cond.constant RL 20 (-900002), Cond.constant RL 50 (-900003), Cond.methodLink RL 61 yX9_conjugator, Cond.instanceMethod yX9_conjugator, Cond.selects RX9 yX9_conjugator yX9_conjugator, Cond.initialized RX9, Cond.code yX9_conjugator cX9_conjugator 6 (some .int), Cond.classLink RX9 124 "java/util/NoSuchElementException", Cond.initialized "java/util/NoSuchElementException", Cond.fieldLink RX9 41 "Foldrose" "draft" "LFoldrose$Row;", Cond.fieldLink RX9 45 "Foldrose" "second" "LFoldrose$Row;", Cond.methodLink RX9 117 yX9_wordAt, Cond.instanceMethod yX9_wordAt, Cond.selects RX9 yX9_wordAt yX9_wordAt, Cond.code yX9_wordAt cX9_wordAt 2 (some (.object "Foldrose$Row")), Cond.classLink RX9 387 "java/lang/IndexOutOfBoundsException", Cond.initialized "java/lang/IndexOutOfBoundsException", Cond.fieldLink RX9 368 "Foldrose" "wordCount" "I", Cond.fieldLink RX9 15 "Foldrose" "words" "[LFoldrose$Row;", Cond.methodLink RX9 168 yX7_turnOfCore]
def wsL_conjugator_r2 : List Cond := [Cond.instanceMethod yX7_turnOfCore, Cond.selects RX7 yX7_turnOfCore yX7_turnOfCore, Cond.initialized RX7, Cond.code yX7_turnOfCore cX7_turnOfCore 4 (some .int), Cond.methodLink RX7 31 yX7_coreSize, Cond.instanceMethod yX7_coreSize, Cond.selects RX7 yX7_coreSize yX7_coreSize, Cond.code yX7_coreSize cX7_coreSize 1 (some .int), Cond.fieldLink RX7 15 "Foldrose$Row" "size" "I", Cond.methodLink RX7 23 yX7_coreStart, Cond.instanceMethod yX7_coreStart, Cond.selects RX7 yX7_coreStart yX7_coreStart, Cond.code yX7_coreStart cX7_coreStart 2 (some .int), Cond.fieldLink RX7 9 "Foldrose$Row" "letters" "[B", Cond.methodLink RX7 34 yX7_isTurned, Cond.instanceMethod yX7_isTurned, Cond.selects RX7 yX7_isTurned yX7_isTurned, Cond.code yX7_isTurned cX7_isTurned 8 (some .boolean), Cond.methodLink RX9 173 yX9_setConjugator, Cond.instanceMethod yX9_setConjugator, Cond.selects RX9 yX9_setConjugator yX9_setConjugator, Cond.code yX9_setConjugator cX9_setConjugator 7 none, Cond.methodLink RX9 177 yX7_coreStart, Cond.methodLink RX9 107 yX7_clear]
def wsL_conjugator_r3 : List Cond := [Cond.instanceMethod yX7_clear, Cond.selects RX7 yX7_clear yX7_clear, Cond.code yX7_clear cX7_clear 1 none, Cond.methodLink RX9 180 yX7_addPart, Cond.instanceMethod yX7_addPart, Cond.selects RX7 yX7_addPart yX7_addPart, Cond.code yX7_addPart cX7_addPart 6 none, Cond.methodLink RX7 19 yX7_add, Cond.instanceMethod yX7_add, Cond.selects RX7 yX7_add yX7_add, Cond.code yX7_add cX7_add 2 none, Cond.methodLink RX9 161 yX7_corePeriod, Cond.instanceMethod yX7_corePeriod, Cond.selects RX7 yX7_corePeriod yX7_corePeriod, Cond.code yX7_corePeriod cX7_corePeriod 4 (some .int), Cond.methodLink RX7 27 yX7_repeats, Cond.instanceMethod yX7_repeats, Cond.selects RX7 yX7_repeats yX7_repeats, Cond.code yX7_repeats cX7_repeats 5 (some .boolean), Cond.methodLink RX9 184 yX7_addPartInverse, Cond.instanceMethod yX7_addPartInverse, Cond.selects RX7 yX7_addPartInverse yX7_addPartInverse, Cond.code yX7_addPartInverse cX7_addPartInverse 6 none, Cond.methodLink RX9 136 yX7_orderTo]
def wsL_conjugator_r4 : List Cond := [Cond.instanceMethod yX7_orderTo, Cond.selects RX7 yX7_orderTo yX7_orderTo, Cond.code yX7_orderTo cX7_orderTo 3 (some .int), Cond.methodLink RX9 113 yX9_keep, Cond.instanceMethod yX9_keep, Cond.selects RX9 yX9_keep yX9_keep, Cond.code yX9_keep cX9_keep 2 (some .int), Cond.classLink RX9 100 "java/lang/IllegalStateException", Cond.initialized "java/lang/IllegalStateException", Cond.fieldLink RX9 121 "Foldrose$Row" "size" "I", Cond.methodLink RX9 329 yX7_set, Cond.instanceMethod yX7_set, Cond.selects RX7 yX7_set yX7_set, Cond.code yX7_set cX7_set 3 none]
def wsL_conjugator : List Cond := .codeWith yL_conjugator cL_conjugator 4 (some .int) [(0, 6, 7, 29), (0, 6, 11, 35), (0, 6, 15, 18)] :: ((wsL_conjugator_r1 ++ (wsL_conjugator_r2 ++ (wsL_conjugator_r3 ++ wsL_conjugator_r4))) ++ wsX90 ++ wsX70 ++ fz_atN.filter goodWord ++ (vx_atS RX9 391 "java/lang/IndexOutOfBoundsException" ["java/lang/RuntimeException", "java/lang/Exception"]).filter goodWord ++ (vx_atM "java/lang/ArrayIndexOutOfBoundsException" ["java/lang/IndexOutOfBoundsException", "java/lang/RuntimeException", "java/lang/Exception"]).filter goodWord ++ (vx_atS RX9 104 "java/lang/IllegalStateException" ["java/lang/RuntimeException", "java/lang/Exception"]).filter goodWord)
def wsL_commute_r1 : List Cond := [Cond.classLink RL 29 "java/lang/IndexOutOfBoundsException", Cond.constant RL 17 (-900001), Cond.methodLink RL 64 yX9_commute, Cond.instanceMethod yX9_commute, Cond.selects RX9 yX9_commute yX9_commute, Cond.initialized RX9, Cond.code yX9_commute cX9_commute 5 (some .boolean), Cond.fieldLink RX9 41 "Foldrose" "draft" "LFoldrose$Row;", Cond.fieldLink RX9 45 "Foldrose" "second" "LFoldrose$Row;", Cond.methodLink RX9 117 yX9_wordAt, Cond.instanceMethod yX9_wordAt, Cond.selects RX9 yX9_wordAt yX9_wordAt, Cond.code yX9_wordAt cX9_wordAt 2 (some (.object "Foldrose$Row")), Cond.classLink RX9 387 "java/lang/IndexOutOfBoundsException", Cond.initialized "java/lang/IndexOutOfBoundsException", Cond.fieldLink RX9 368 "Foldrose" "wordCount" "I", Cond.fieldLink RX9 15 "Foldrose" "words" "[LFoldrose$Row;", Cond.methodLink RX9 139 yX9_setProduct, Cond.static yX9_setProduct, Cond.code yX9_setProduct cX9_setProduct 3 none, Cond.methodLink RX9 107 yX7_clear, Cond.instanceMethod yX7_clear, Cond.selects RX7 yX7_clear yX7_clear, Cond.initialized RX7]
def wsL_commute_r2 : List Cond := [Cond.code yX7_clear cX7_clear 1 none, Cond.fieldLink RX7 15 "Foldrose$Row" "size" "I", Cond.methodLink RX9 152 yX7_addRow, Cond.instanceMethod yX7_addRow, Cond.selects RX7 yX7_addRow yX7_addRow, Cond.code yX7_addRow cX7_addRow 4 none, Cond.fieldLink RX7 9 "Foldrose$Row" "letters" "[B", Cond.methodLink RX7 19 yX7_add, Cond.instanceMethod yX7_add, Cond.selects RX7 yX7_add yX7_add, Cond.code yX7_add cX7_add 2 none, Cond.methodLink RX9 136 yX7_orderTo, Cond.instanceMethod yX7_orderTo, Cond.selects RX7 yX7_orderTo yX7_orderTo, Cond.code yX7_orderTo cX7_orderTo 3 (some .int)]
def wsL_commute : List Cond := .codeWith yL_commute cL_commute 4 (some .int) [(0, 14, 15, 29)] :: ((wsL_commute_r1 ++ wsL_commute_r2) ++ wsX90 ++ wsX70 ++ (vx_atS RX9 391 "java/lang/IndexOutOfBoundsException" ["java/lang/RuntimeException", "java/lang/Exception"]).filter goodWord ++ (vx_atM "java/lang/ArrayIndexOutOfBoundsException" ["java/lang/IndexOutOfBoundsException", "java/lang/RuntimeException", "java/lang/Exception"]).filter goodWord)
def wsL_in : List Cond := .code yL_in cL_in 3 (some .int) :: ([.constant RL 74 (2147483647), .methodLink RL 68 yL_cell, .static yL_cell, .initialized RL, .code yL_cell cL_cell 3 (some .int), .constant RL 7 (69069), .constant RL 8 (1103515245)] ++ (vx_atM "java/lang/ArrayIndexOutOfBoundsException" ["java/lang/IndexOutOfBoundsException", "java/lang/RuntimeException", "java/lang/Exception"]).filter goodWord)
def wsL_joined : List Cond := .code yL_joined cL_joined 6 (some (.array .int)) :: ([.arrayClass .int] ++ (vx_atM "java/lang/ArrayIndexOutOfBoundsException" ["java/lang/IndexOutOfBoundsException", "java/lang/RuntimeException", "java/lang/Exception"]).filter goodWord)
def wsL_turned : List Cond := .code yL_turned cL_turned 3 (some (.array .int)) :: ([.arrayClass .int] ++ (vx_atM "java/lang/ArrayIndexOutOfBoundsException" ["java/lang/IndexOutOfBoundsException", "java/lang/RuntimeException", "java/lang/Exception"]).filter goodWord)
def wsL_some : List Cond := .code yL_some cL_some 5 (some (.array .int)) :: ([.arrayClass .int, .methodLink RL 75 yL_in, .static yL_in, .initialized RL, .code yL_in cL_in 3 (some .int), .constant RL 74 (2147483647), .methodLink RL 68 yL_cell, .static yL_cell, .code yL_cell cL_cell 3 (some .int), .constant RL 7 (69069), .constant RL 8 (1103515245), .methodLink RL 79 yL_joined, .static yL_joined, .code yL_joined cL_joined 6 (some (.array .int))] ++ (vx_atM "java/lang/ArrayIndexOutOfBoundsException" ["java/lang/IndexOutOfBoundsException", "java/lang/RuntimeException", "java/lang/Exception"]).filter goodWord)
def wsL_told_r1 : List Cond := [Cond.methodLink RL 85 yJ0_charAt_5068e, Cond.instanceMethod yJ0_charAt_5068e, Cond.selects RJ0 yJ0_charAt_5068e yJ0_charAt_5068e, Cond.initialized RJ0, Cond.code yJ0_charAt_5068e cJ0_charAt_5068e 2 (some .char), Cond.fieldLink RJ0 9 "java/lang/String" "value" "[B", Cond.methodLink RJ0 492 yJ0_isLatin1_aae02, Cond.instanceMethod yJ0_isLatin1_aae02, Cond.selects RJ0 yJ0_isLatin1_aae02 yJ0_isLatin1_aae02, Cond.code yJ0_isLatin1_aae02 cJ0_isLatin1_aae02 1 (some .boolean), Cond.fieldLink RJ0 38 "java/lang/String" "COMPACT_STRINGS" "Z", Cond.fieldLink RJ0 15 "java/lang/String" "coder" "B", Cond.methodLink RJ0 495 yJ1_charAt_3b067, Cond.static yJ1_charAt_3b067, Cond.initialized RJ1, Cond.code yJ1_charAt_3b067 cJ1_charAt_3b067 2 (some .char), Cond.methodLink RJ1 9 yJ0_checkIndex_df160, Cond.static yJ0_checkIndex_df160, Cond.code yJ0_checkIndex_df160 cJ0_checkIndex_df160 2 none, Cond.fieldLink RJ0 1053 "jdk/internal/util/Preconditions" "SIOOBE_FORMATTER" "Ljava/util/function/BiFunction;", Cond.methodLink RJ0 1059 yJ3_checkIndex_8e157, Cond.static yJ3_checkIndex_8e157, Cond.initialized RJ3, Cond.code yJ3_checkIndex_8e157 cJ3_checkIndex_8e157 3 (some .int)]
def wsL_told_r2 : List Cond := [Cond.methodLink RJ0 498 yJ2_charAt_3b067, Cond.static yJ2_charAt_3b067, Cond.initialized RJ2, Cond.code yJ2_charAt_3b067 cJ2_charAt_3b067 2 (some .char), Cond.methodLink RJ2 67 yJ2_checkIndex_2214a, Cond.static yJ2_checkIndex_2214a, Cond.code yJ2_checkIndex_2214a cJ2_checkIndex_2214a 2 none, Cond.methodLink RJ2 48 yJ2_length_9d52b, Cond.static yJ2_length_9d52b, Cond.code yJ2_length_9d52b cJ2_length_9d52b 1 (some .int), Cond.methodLink RJ2 414 yJ0_checkIndex_df160, Cond.methodLink RJ2 71 yJ2_getChar_3b067, Cond.static yJ2_getChar_3b067, Cond.code yJ2_getChar_3b067 cJ2_getChar_3b067 2 (some .char), Cond.fieldLink RJ2 44 "java/lang/StringUTF16" "$assertionsDisabled" "Z", Cond.fieldLink RJ2 59 "java/lang/StringUTF16" "HI_BYTE_SHIFT" "I", Cond.fieldLink RJ2 63 "java/lang/StringUTF16" "LO_BYTE_SHIFT" "I", Cond.methodLink RL 91 yL_type, Cond.static yL_type, Cond.initialized RL, Cond.codeWith yL_type cL_type 3 (some .int) [(0, 5, 6, 15), (0, 5, 10, 18)], Cond.classLink RL 15 "java/lang/IllegalArgumentException", Cond.classLink RL 18 "java/lang/IllegalStateException", Cond.constant RL 17 (-900001)]
def wsL_told_r3 : List Cond := [Cond.constant RL 20 (-900002), Cond.methodLink RL 9 yX9_type, Cond.instanceMethod yX9_type, Cond.selects RX9 yX9_type yX9_type, Cond.initialized RX9, Cond.code yX9_type cX9_type 3 (some .int), Cond.classLink RX9 100 "java/lang/IllegalStateException", Cond.initialized "java/lang/IllegalStateException", Cond.fieldLink RX9 96 "Foldrose" "typedCount" "I", Cond.fieldLink RX9 9 "Foldrose" "typed" "[B", Cond.methodLink RX9 92 yX9_codeOf, Cond.instanceMethod yX9_codeOf, Cond.selects RX9 yX9_codeOf yX9_codeOf, Cond.code yX9_codeOf cX9_codeOf 3 (some .int), Cond.classLink RX9 147 "java/lang/IllegalArgumentException", Cond.initialized "java/lang/IllegalArgumentException", Cond.fieldLink RX9 129 "Foldrose" "SIGNS" "[C", Cond.methodLink RL 94 yL_word, Cond.static yL_word, Cond.codeWith yL_word cL_word 2 (some .int) [(0, 4, 5, 18)], Cond.methodLink RL 21 yX9_word, Cond.instanceMethod yX9_word, Cond.selects RX9 yX9_word yX9_word, Cond.code yX9_word cX9_word 2 (some .int)]
def wsL_told_r4 : List Cond := [Cond.fieldLink RX9 41 "Foldrose" "draft" "LFoldrose$Row;", Cond.methodLink RX9 107 yX7_clear, Cond.instanceMethod yX7_clear, Cond.selects RX7 yX7_clear yX7_clear, Cond.initialized RX7, Cond.code yX7_clear cX7_clear 1 none, Cond.fieldLink RX7 15 "Foldrose$Row" "size" "I", Cond.methodLink RX9 110 yX7_add, Cond.instanceMethod yX7_add, Cond.selects RX7 yX7_add yX7_add, Cond.code yX7_add cX7_add 2 none, Cond.fieldLink RX7 9 "Foldrose$Row" "letters" "[B", Cond.methodLink RX9 113 yX9_keep, Cond.instanceMethod yX9_keep, Cond.selects RX9 yX9_keep yX9_keep, Cond.code yX9_keep cX9_keep 2 (some .int), Cond.fieldLink RX9 368 "Foldrose" "wordCount" "I", Cond.fieldLink RX9 121 "Foldrose$Row" "size" "I", Cond.fieldLink RX9 15 "Foldrose" "words" "[LFoldrose$Row;", Cond.methodLink RX9 329 yX7_set, Cond.instanceMethod yX7_set, Cond.selects RX7 yX7_set yX7_set, Cond.code yX7_set cX7_set 3 none]
def wsL_told : List Cond := .code yL_told cL_told 4 (some .int) :: ((wsL_told_r1 ++ (wsL_told_r2 ++ (wsL_told_r3 ++ wsL_told_r4))) ++ wsJ00 ++ wsX90 ++ wsX70 ++ (vx_atM "java/lang/ArrayIndexOutOfBoundsException" ["java/lang/IndexOutOfBoundsException", "java/lang/RuntimeException", "java/lang/Exception"]).filter goodWord ++ (vx_atS RX9 104 "java/lang/IllegalStateException" ["java/lang/RuntimeException", "java/lang/Exception"]).filter goodWord ++ (vx_atS RX9 151 "java/lang/IllegalArgumentException" ["java/lang/RuntimeException", "java/lang/Exception"]).filter goodWord)
def wsL_isRow_r1 : List Cond := [Cond.methodLink RL 97 yL_length, Cond.static yL_length, Cond.initialized RL, Cond.codeWith yL_length cL_length 3 (some .int) [(0, 5, 6, 29)], Cond.classLink RL 29 "java/lang/IndexOutOfBoundsException", Cond.constant RL 17 (-900001), Cond.methodLink RL 25 yX9_length, Cond.instanceMethod yX9_length, Cond.selects RX9 yX9_length yX9_length, Cond.initialized RX9, Cond.code yX9_length cX9_length 2 (some .int), Cond.fieldLink RX9 121 "Foldrose$Row" "size" "I", Cond.methodLink RX9 117 yX9_wordAt, Cond.instanceMethod yX9_wordAt, Cond.selects RX9 yX9_wordAt yX9_wordAt, Cond.code yX9_wordAt cX9_wordAt 2 (some (.object "Foldrose$Row")), Cond.classLink RX9 387 "java/lang/IndexOutOfBoundsException", Cond.initialized "java/lang/IndexOutOfBoundsException", Cond.fieldLink RX9 368 "Foldrose" "wordCount" "I", Cond.fieldLink RX9 15 "Foldrose" "words" "[LFoldrose$Row;", Cond.methodLink RL 100 yL_letter, Cond.static yL_letter, Cond.codeWith yL_letter cL_letter 4 (some .int) [(0, 6, 7, 29), (0, 6, 11, 35)], Cond.classLink RL 35 "java/util/NoSuchElementException"]
def wsL_isRow_r2 : List Cond := [Cond.constant RL 20 (-900002), Cond.methodLink RL 31 yX9_letter, Cond.instanceMethod yX9_letter, Cond.selects RX9 yX9_letter yX9_letter, Cond.code yX9_letter cX9_letter 4 (some .char), Cond.classLink RX9 124 "java/util/NoSuchElementException", Cond.initialized "java/util/NoSuchElementException", Cond.fieldLink RX9 129 "Foldrose" "SIGNS" "[C", Cond.fieldLink RX9 133 "Foldrose$Row" "letters" "[B", Cond.methodLink RL 85 yJ0_charAt_5068e, Cond.instanceMethod yJ0_charAt_5068e, Cond.selects RJ0 yJ0_charAt_5068e yJ0_charAt_5068e, Cond.initialized RJ0, Cond.code yJ0_charAt_5068e cJ0_charAt_5068e 2 (some .char), Cond.fieldLink RJ0 9 "java/lang/String" "value" "[B", Cond.methodLink RJ0 492 yJ0_isLatin1_aae02, Cond.instanceMethod yJ0_isLatin1_aae02, Cond.selects RJ0 yJ0_isLatin1_aae02 yJ0_isLatin1_aae02, Cond.code yJ0_isLatin1_aae02 cJ0_isLatin1_aae02 1 (some .boolean), Cond.fieldLink RJ0 38 "java/lang/String" "COMPACT_STRINGS" "Z", Cond.fieldLink RJ0 15 "java/lang/String" "coder" "B", Cond.methodLink RJ0 495 yJ1_charAt_3b067, Cond.static yJ1_charAt_3b067, Cond.initialized RJ1]
def wsL_isRow_r3 : List Cond := [Cond.code yJ1_charAt_3b067 cJ1_charAt_3b067 2 (some .char), Cond.methodLink RJ1 9 yJ0_checkIndex_df160, Cond.static yJ0_checkIndex_df160, Cond.code yJ0_checkIndex_df160 cJ0_checkIndex_df160 2 none, Cond.fieldLink RJ0 1053 "jdk/internal/util/Preconditions" "SIOOBE_FORMATTER" "Ljava/util/function/BiFunction;", Cond.methodLink RJ0 1059 yJ3_checkIndex_8e157, Cond.static yJ3_checkIndex_8e157, Cond.initialized RJ3, Cond.code yJ3_checkIndex_8e157 cJ3_checkIndex_8e157 3 (some .int), Cond.methodLink RJ0 498 yJ2_charAt_3b067, Cond.static yJ2_charAt_3b067, Cond.initialized RJ2, Cond.code yJ2_charAt_3b067 cJ2_charAt_3b067 2 (some .char), Cond.methodLink RJ2 67 yJ2_checkIndex_2214a, Cond.static yJ2_checkIndex_2214a, Cond.code yJ2_checkIndex_2214a cJ2_checkIndex_2214a 2 none, Cond.methodLink RJ2 48 yJ2_length_9d52b, Cond.static yJ2_length_9d52b, Cond.code yJ2_length_9d52b cJ2_length_9d52b 1 (some .int), Cond.methodLink RJ2 414 yJ0_checkIndex_df160, Cond.methodLink RJ2 71 yJ2_getChar_3b067, Cond.static yJ2_getChar_3b067, Cond.code yJ2_getChar_3b067 cJ2_getChar_3b067 2 (some .char), Cond.fieldLink RJ2 44 "java/lang/StringUTF16" "$assertionsDisabled" "Z"]
def wsL_isRow_r4 : List Cond := [Cond.fieldLink RJ2 59 "java/lang/StringUTF16" "HI_BYTE_SHIFT" "I", Cond.fieldLink RJ2 63 "java/lang/StringUTF16" "LO_BYTE_SHIFT" "I"]
def wsL_isRow : List Cond := .code yL_isRow cL_isRow 5 (some .boolean) :: ((wsL_isRow_r1 ++ (wsL_isRow_r2 ++ (wsL_isRow_r3 ++ wsL_isRow_r4))) ++ wsX70 ++ wsX90 ++ wsJ00 ++ (vx_atM "java/lang/ArrayIndexOutOfBoundsException" ["java/lang/IndexOutOfBoundsException", "java/lang/RuntimeException", "java/lang/Exception"]).filter goodWord ++ (vx_atS RX9 391 "java/lang/IndexOutOfBoundsException" ["java/lang/RuntimeException", "java/lang/Exception"]).filter goodWord ++ fz_atN.filter goodWord)
def wsL_law0_r1 : List Cond := [Cond.classLink RL 10 RX9, Cond.instantiable RX9 18, Cond.initialized RX9, Cond.constant RL 17 (-900001), Cond.arrayClass .int, Cond.constant RL 20 (-900002), Cond.constant RL 50 (-900003), Cond.methodLink RL 103 yX9_init, Cond.instanceMethod yX9_init, Cond.code yX9_init cX9_init 2 none, Cond.methodLink RX9 3 objectInit, Cond.instanceMethod objectInit, Cond.code objectInit ⟨#[0xb1]⟩ 1 none, Cond.arrayClass .byte, Cond.fieldLink RX9 9 "Foldrose" "typed" "[B", Cond.classLink RX9 13 RX7, Cond.fieldLink RX9 15 "Foldrose" "words" "[LFoldrose$Row;", Cond.fieldLink RX9 19 "Foldrose" "forms" "[LFoldrose$Row;", Cond.arrayClass .boolean, Cond.fieldLink RX9 22 "Foldrose" "formKnown" "[Z", Cond.classLink RX9 26 RX2, Cond.fieldLink RX9 28 "Foldrose" "groups" "[LFoldrose$Group;", Cond.classLink RX9 32 RX3, Cond.fieldLink RX9 34 "Foldrose" "maps" "[LFoldrose$Images;"]
def wsL_law0_r2 : List Cond := [Cond.instantiable RX7 2, Cond.initialized RX7, Cond.fieldLink RX9 41 "Foldrose" "draft" "LFoldrose$Row;", Cond.fieldLink RX9 45 "Foldrose" "second" "LFoldrose$Row;", Cond.classLink RX9 48 RX1, Cond.instantiable RX1 7, Cond.initialized RX1, Cond.fieldLink RX9 51 "Foldrose" "spare" "LFoldrose$Graph;", Cond.classLink RX9 55 RX5, Cond.instantiable RX5 9, Cond.initialized RX5, Cond.fieldLink RX9 58 "Foldrose" "net" "LFoldrose$Net;", Cond.classLink RX9 62 RX0, Cond.instantiable RX0 4, Cond.initialized RX0, Cond.fieldLink RX9 65 "Foldrose" "fitter" "LFoldrose$Fitter;", Cond.classLink RX9 69 RX6, Cond.instantiable RX6 2, Cond.initialized RX6, Cond.fieldLink RX9 72 "Foldrose" "paths" "LFoldrose$Paths;", Cond.classLink RX9 76 RX8, Cond.instantiable RX8 6, Cond.initialized RX8, Cond.fieldLink RX9 79 "Foldrose" "shortener" "LFoldrose$Shortener;"]
def wsL_law0_r3 : List Cond := [Cond.classLink RX9 83 RX4, Cond.instantiable RX4 5, Cond.initialized RX4, Cond.fieldLink RX9 86 "Foldrose" "inverter" "LFoldrose$Inverter;", Cond.instantiable RX2 3, Cond.initialized RX2, Cond.instantiable RX3 4, Cond.initialized RX3, Cond.methodLink RX9 38 yX7_init, Cond.instanceMethod yX7_init, Cond.code yX7_init cX7_init 2 none, Cond.methodLink RX7 3 objectInit, Cond.fieldLink RX7 9 "Foldrose$Row" "letters" "[B", Cond.instanceMethod yX1_init, Cond.code yX1_init cX1_init 1 none, Cond.methodLink RX1 3 objectInit, Cond.fieldLink RX1 9 "Foldrose$Graph" "ends" "[I", Cond.fieldLink RX1 15 "Foldrose$Graph" "treeFrom" "[I", Cond.fieldLink RX1 18 "Foldrose$Graph" "treeLetter" "[I", Cond.fieldLink RX1 21 "Foldrose$Graph" "loops" "[I", Cond.classLink RX1 24 RX7, Cond.fieldLink RX1 29 "Foldrose$Graph" "back" "LFoldrose$Row;", Cond.methodLink RX1 26 yX7_init, Cond.instanceMethod yX5_init]
def wsL_law0_r4 : List Cond := [Cond.code yX5_init cX5_init 1 none, Cond.methodLink RX5 3 objectInit, Cond.fieldLink RX5 9 "Foldrose$Net" "ends" "[I", Cond.fieldLink RX5 15 "Foldrose$Net" "into" "[I", Cond.fieldLink RX5 18 "Foldrose$Net" "marks" "[I", Cond.fieldLink RX5 21 "Foldrose$Net" "pairs" "[I", Cond.fieldLink RX5 24 "Foldrose$Net" "found" "[I", Cond.fieldLink RX5 27 "Foldrose$Net" "waitingOnes" "[I", Cond.fieldLink RX5 30 "Foldrose$Net" "waitingOthers" "[I", Cond.instanceMethod yX0_init, Cond.code yX0_init cX0_init 1 none, Cond.methodLink RX0 3 objectInit, Cond.classLink RX0 9 RX1, Cond.fieldLink RX0 12 "Foldrose$Fitter" "coreOne" "LFoldrose$Graph;", Cond.fieldLink RX0 18 "Foldrose$Fitter" "coreTwo" "LFoldrose$Graph;", Cond.fieldLink RX0 21 "Foldrose$Fitter" "laid" "[I", Cond.fieldLink RX0 25 "Foldrose$Fitter" "found" "[I", Cond.instanceMethod yX6_init, Cond.code yX6_init cX6_init 1 none, Cond.methodLink RX6 3 objectInit, Cond.arrayClass .long, Cond.fieldLink RX6 9 "Foldrose$Paths" "ways" "[J", Cond.fieldLink RX6 15 "Foldrose$Paths" "longer" "[J", Cond.instanceMethod yX8_init]
def wsL_law0_r5 : List Cond := [Cond.code yX8_init cX8_init 1 none, Cond.methodLink RX8 3 objectInit, Cond.classLink RX8 9 RX7, Cond.fieldLink RX8 14 "Foldrose$Shortener" "moved" "LFoldrose$Row;", Cond.fieldLink RX8 20 "Foldrose$Shortener" "turned" "LFoldrose$Row;", Cond.fieldLink RX8 23 "Foldrose$Shortener" "turns" "[I", Cond.methodLink RX8 11 yX7_init, Cond.methodLink RX9 85 yX4_init, Cond.instanceMethod yX4_init, Cond.code yX4_init cX4_init 2 none, Cond.methodLink RX4 3 objectInit, Cond.classLink RX4 9 RX7, Cond.fieldLink RX4 11 "Foldrose$Inverter" "images" "[LFoldrose$Row;", Cond.fieldLink RX4 17 "Foldrose$Inverter" "origins" "[LFoldrose$Row;", Cond.fieldLink RX4 23 "Foldrose$Inverter" "image" "LFoldrose$Row;", Cond.fieldLink RX4 27 "Foldrose$Inverter" "origin" "LFoldrose$Row;", Cond.methodLink RX4 20 yX7_init, Cond.methodLink RX9 90 yX2_init, Cond.instanceMethod yX2_init, Cond.code yX2_init cX2_init 2 none, Cond.methodLink RX2 3 objectInit, Cond.classLink RX2 9 RX1, Cond.fieldLink RX2 12 "Foldrose$Group" "graph" "LFoldrose$Graph;", Cond.classLink RX2 18 RX7]
def wsL_law0_r6 : List Cond := [Cond.fieldLink RX2 20 "Foldrose$Group" "generators" "[LFoldrose$Row;", Cond.methodLink RX2 24 yX7_init, Cond.methodLink RX9 91 yX3_init, Cond.instanceMethod yX3_init, Cond.code yX3_init cX3_init 2 none, Cond.methodLink RX3 3 objectInit, Cond.classLink RX3 9 RX7, Cond.fieldLink RX3 11 "Foldrose$Images" "rows" "[LFoldrose$Row;", Cond.fieldLink RX3 17 "Foldrose$Images" "heads" "[I", Cond.fieldLink RX3 21 "Foldrose$Images" "sizes" "[J", Cond.fieldLink RX3 25 "Foldrose$Images" "grownSizes" "[J", Cond.methodLink RX3 28 yX7_init, Cond.methodLink RL 91 yL_type, Cond.static yL_type, Cond.initialized RL, Cond.codeWith yL_type cL_type 3 (some .int) [(0, 5, 6, 15), (0, 5, 10, 18)], Cond.classLink RL 15 "java/lang/IllegalArgumentException", Cond.classLink RL 18 "java/lang/IllegalStateException", Cond.methodLink RL 9 yX9_type, Cond.instanceMethod yX9_type, Cond.selects RX9 yX9_type yX9_type, Cond.code yX9_type cX9_type 3 (some .int), Cond.classLink RX9 100 "java/lang/IllegalStateException", Cond.initialized "java/lang/IllegalStateException"]
def wsL_law0_r7 : List Cond := [Cond.fieldLink RX9 96 "Foldrose" "typedCount" "I", Cond.methodLink RX9 92 yX9_codeOf, Cond.instanceMethod yX9_codeOf, Cond.selects RX9 yX9_codeOf yX9_codeOf, Cond.code yX9_codeOf cX9_codeOf 3 (some .int), Cond.classLink RX9 147 "java/lang/IllegalArgumentException", Cond.initialized "java/lang/IllegalArgumentException", Cond.fieldLink RX9 129 "Foldrose" "SIGNS" "[C", Cond.methodLink RL 104 yX9_wipe, Cond.instanceMethod yX9_wipe, Cond.selects RX9 yX9_wipe yX9_wipe, Cond.code yX9_wipe cX9_wipe 2 (some .int), Cond.methodLink RL 97 yL_length, Cond.static yL_length, Cond.codeWith yL_length cL_length 3 (some .int) [(0, 5, 6, 29)], Cond.classLink RL 29 "java/lang/IndexOutOfBoundsException", Cond.methodLink RL 25 yX9_length, Cond.instanceMethod yX9_length, Cond.selects RX9 yX9_length yX9_length, Cond.code yX9_length cX9_length 2 (some .int), Cond.fieldLink RX9 121 "Foldrose$Row" "size" "I", Cond.methodLink RX9 117 yX9_wordAt, Cond.instanceMethod yX9_wordAt, Cond.selects RX9 yX9_wordAt yX9_wordAt]
def wsL_law0_r8 : List Cond := [Cond.code yX9_wordAt cX9_wordAt 2 (some (.object "Foldrose$Row")), Cond.classLink RX9 387 "java/lang/IndexOutOfBoundsException", Cond.initialized "java/lang/IndexOutOfBoundsException", Cond.fieldLink RX9 368 "Foldrose" "wordCount" "I", Cond.methodLink RL 75 yL_in, Cond.static yL_in, Cond.code yL_in cL_in 3 (some .int), Cond.constant RL 74 (2147483647), Cond.methodLink RL 68 yL_cell, Cond.static yL_cell, Cond.code yL_cell cL_cell 3 (some .int), Cond.constant RL 7 (69069), Cond.constant RL 8 (1103515245), Cond.methodLink RL 107 yL_some, Cond.static yL_some, Cond.code yL_some cL_some 5 (some (.array .int)), Cond.methodLink RL 79 yL_joined, Cond.static yL_joined, Cond.code yL_joined cL_joined 6 (some (.array .int)), Cond.methodLink RL 111 yL_told, Cond.static yL_told, Cond.code yL_told cL_told 4 (some .int), Cond.methodLink RL 85 yJ0_charAt_5068e, Cond.instanceMethod yJ0_charAt_5068e]
def wsL_law0_r9 : List Cond := [Cond.selects RJ0 yJ0_charAt_5068e yJ0_charAt_5068e, Cond.initialized RJ0, Cond.code yJ0_charAt_5068e cJ0_charAt_5068e 2 (some .char), Cond.fieldLink RJ0 9 "java/lang/String" "value" "[B", Cond.methodLink RJ0 492 yJ0_isLatin1_aae02, Cond.instanceMethod yJ0_isLatin1_aae02, Cond.selects RJ0 yJ0_isLatin1_aae02 yJ0_isLatin1_aae02, Cond.code yJ0_isLatin1_aae02 cJ0_isLatin1_aae02 1 (some .boolean), Cond.fieldLink RJ0 38 "java/lang/String" "COMPACT_STRINGS" "Z", Cond.fieldLink RJ0 15 "java/lang/String" "coder" "B", Cond.methodLink RJ0 495 yJ1_charAt_3b067, Cond.static yJ1_charAt_3b067, Cond.initialized RJ1, Cond.code yJ1_charAt_3b067 cJ1_charAt_3b067 2 (some .char), Cond.methodLink RJ1 9 yJ0_checkIndex_df160, Cond.static yJ0_checkIndex_df160, Cond.code yJ0_checkIndex_df160 cJ0_checkIndex_df160 2 none, Cond.fieldLink RJ0 1053 "jdk/internal/util/Preconditions" "SIOOBE_FORMATTER" "Ljava/util/function/BiFunction;", Cond.methodLink RJ0 1059 yJ3_checkIndex_8e157, Cond.static yJ3_checkIndex_8e157, Cond.initialized RJ3, Cond.code yJ3_checkIndex_8e157 cJ3_checkIndex_8e157 3 (some .int), Cond.methodLink RJ0 498 yJ2_charAt_3b067, Cond.static yJ2_charAt_3b067]
def wsL_law0_r10 : List Cond := [Cond.initialized RJ2, Cond.code yJ2_charAt_3b067 cJ2_charAt_3b067 2 (some .char), Cond.methodLink RJ2 67 yJ2_checkIndex_2214a, Cond.static yJ2_checkIndex_2214a, Cond.code yJ2_checkIndex_2214a cJ2_checkIndex_2214a 2 none, Cond.methodLink RJ2 48 yJ2_length_9d52b, Cond.static yJ2_length_9d52b, Cond.code yJ2_length_9d52b cJ2_length_9d52b 1 (some .int), Cond.methodLink RJ2 414 yJ0_checkIndex_df160, Cond.methodLink RJ2 71 yJ2_getChar_3b067, Cond.static yJ2_getChar_3b067, Cond.code yJ2_getChar_3b067 cJ2_getChar_3b067 2 (some .char), Cond.fieldLink RJ2 44 "java/lang/StringUTF16" "$assertionsDisabled" "Z", Cond.fieldLink RJ2 59 "java/lang/StringUTF16" "HI_BYTE_SHIFT" "I", Cond.fieldLink RJ2 63 "java/lang/StringUTF16" "LO_BYTE_SHIFT" "I", Cond.methodLink RL 94 yL_word, Cond.static yL_word, Cond.codeWith yL_word cL_word 2 (some .int) [(0, 4, 5, 18)], Cond.methodLink RL 21 yX9_word, Cond.instanceMethod yX9_word, Cond.selects RX9 yX9_word yX9_word, Cond.code yX9_word cX9_word 2 (some .int), Cond.methodLink RX9 107 yX7_clear, Cond.instanceMethod yX7_clear]
def wsL_law0_r11 : List Cond := [Cond.selects RX7 yX7_clear yX7_clear, Cond.code yX7_clear cX7_clear 1 none, Cond.fieldLink RX7 15 "Foldrose$Row" "size" "I", Cond.methodLink RX9 110 yX7_add, Cond.instanceMethod yX7_add, Cond.selects RX7 yX7_add yX7_add, Cond.code yX7_add cX7_add 2 none, Cond.methodLink RX9 113 yX9_keep, Cond.instanceMethod yX9_keep, Cond.selects RX9 yX9_keep yX9_keep, Cond.code yX9_keep cX9_keep 2 (some .int), Cond.methodLink RX9 329 yX7_set, Cond.instanceMethod yX7_set, Cond.selects RX7 yX7_set yX7_set, Cond.code yX7_set cX7_set 3 none, Cond.methodLink RL 115 yL_isRow, Cond.static yL_isRow, Cond.code yL_isRow cL_isRow 5 (some .boolean), Cond.methodLink RL 100 yL_letter, Cond.static yL_letter, Cond.codeWith yL_letter cL_letter 4 (some .int) [(0, 6, 7, 29), (0, 6, 11, 35)], Cond.classLink RL 35 "java/util/NoSuchElementException", Cond.methodLink RL 31 yX9_letter, Cond.instanceMethod yX9_letter]
def wsL_law0_r12 : List Cond := [Cond.selects RX9 yX9_letter yX9_letter, Cond.code yX9_letter cX9_letter 4 (some .char), Cond.classLink RX9 124 "java/util/NoSuchElementException", Cond.initialized "java/util/NoSuchElementException", Cond.fieldLink RX9 133 "Foldrose$Row" "letters" "[B", Cond.methodLink RL 119 yL_product, Cond.static yL_product, Cond.codeWith yL_product cL_product 4 (some .int) [(0, 6, 7, 29), (0, 6, 11, 18)], Cond.methodLink RL 41 yX9_product, Cond.instanceMethod yX9_product, Cond.selects RX9 yX9_product yX9_product, Cond.code yX9_product cX9_product 3 (some .int), Cond.methodLink RX9 139 yX9_setProduct, Cond.static yX9_setProduct, Cond.code yX9_setProduct cX9_setProduct 3 none, Cond.methodLink RX9 152 yX7_addRow, Cond.instanceMethod yX7_addRow, Cond.selects RX7 yX7_addRow yX7_addRow, Cond.code yX7_addRow cX7_addRow 4 none, Cond.methodLink RX7 19 yX7_add, Cond.methodLink RL 121 yL_inverse, Cond.static yL_inverse, Cond.codeWith yL_inverse cL_inverse 3 (some .int) [(0, 5, 6, 29), (0, 5, 10, 18)], Cond.methodLink RL 44 yX9_inverse]
def wsL_law0_r13 : List Cond := [Cond.instanceMethod yX9_inverse, Cond.selects RX9 yX9_inverse yX9_inverse, Cond.code yX9_inverse cX9_inverse 3 (some .int), Cond.methodLink RX9 143 yX7_addInverse, Cond.instanceMethod yX7_addInverse, Cond.selects RX7 yX7_addInverse yX7_addInverse, Cond.code yX7_addInverse cX7_addInverse 3 none, Cond.methodLink RL 123 yL_turned, Cond.static yL_turned, Cond.code yL_turned cL_turned 3 (some (.array .int)), Cond.methodLink RL 127 yL_compare, Cond.static yL_compare, Cond.codeWith yL_compare cL_compare 4 (some .int) [(0, 6, 7, 29)], Cond.methodLink RL 37 yX9_compare, Cond.instanceMethod yX9_compare, Cond.selects RX9 yX9_compare yX9_compare, Cond.code yX9_compare cX9_compare 3 (some .int), Cond.methodLink RX9 136 yX7_orderTo, Cond.instanceMethod yX7_orderTo, Cond.selects RX7 yX7_orderTo yX7_orderTo, Cond.code yX7_orderTo cX7_orderTo 3 (some .int), Cond.methodLink RL 129 yL_power, Cond.static yL_power, Cond.codeWith yL_power cL_power 4 (some .int) [(0, 6, 7, 29), (0, 6, 11, 15), (0, 6, 15, 18)]]
def wsL_law0_r14 : List Cond := [Cond.methodLink RL 47 yX9_power, Cond.instanceMethod yX9_power, Cond.selects RX9 yX9_power yX9_power, Cond.code yX9_power cX9_power 5 (some .int), Cond.methodLink RL 131 yL_core, Cond.static yL_core, Cond.codeWith yL_core cL_core 3 (some .int) [(0, 5, 6, 29)], Cond.methodLink RL 51 yX9_core, Cond.instanceMethod yX9_core, Cond.selects RX9 yX9_core yX9_core, Cond.code yX9_core cX9_core 2 (some .int), Cond.methodLink RX9 155 yX7_coreSize, Cond.instanceMethod yX7_coreSize, Cond.selects RX7 yX7_coreSize yX7_coreSize, Cond.code yX7_coreSize cX7_coreSize 1 (some .int), Cond.methodLink RX7 23 yX7_coreStart, Cond.instanceMethod yX7_coreStart, Cond.selects RX7 yX7_coreStart yX7_coreStart, Cond.code yX7_coreStart cX7_coreStart 2 (some .int), Cond.methodLink RL 133 yL_exponent, Cond.static yL_exponent, Cond.codeWith yL_exponent cL_exponent 3 (some .int) [(0, 5, 6, 29), (0, 5, 10, 35)], Cond.methodLink RL 54 yX9_exponent, Cond.instanceMethod yX9_exponent]
def wsL_law0_r15 : List Cond := [Cond.selects RX9 yX9_exponent yX9_exponent, Cond.code yX9_exponent cX9_exponent 4 (some .int), Cond.methodLink RX9 161 yX7_corePeriod, Cond.instanceMethod yX7_corePeriod, Cond.selects RX7 yX7_corePeriod yX7_corePeriod, Cond.code yX7_corePeriod cX7_corePeriod 4 (some .int), Cond.methodLink RX7 27 yX7_repeats, Cond.instanceMethod yX7_repeats, Cond.selects RX7 yX7_repeats yX7_repeats, Cond.code yX7_repeats cX7_repeats 5 (some .boolean), Cond.methodLink RL 135 yL_sum, Cond.static yL_sum, Cond.codeWith yL_sum cL_sum 4 (some .int) [(0, 6, 7, 29), (0, 6, 11, 15)], Cond.methodLink RL 57 yX9_sum, Cond.instanceMethod yX9_sum, Cond.selects RX9 yX9_sum yX9_sum, Cond.code yX9_sum cX9_sum 4 (some .int), Cond.methodLink RX9 164 yX7_sumOf, Cond.instanceMethod yX7_sumOf, Cond.selects RX7 yX7_sumOf yX7_sumOf, Cond.code yX7_sumOf cX7_sumOf 4 (some .int), Cond.methodLink RL 138 yL_commute, Cond.static yL_commute, Cond.codeWith yL_commute cL_commute 4 (some .int) [(0, 14, 15, 29)]]
def wsL_law0_r16 : List Cond := [Cond.methodLink RL 64 yX9_commute, Cond.instanceMethod yX9_commute, Cond.selects RX9 yX9_commute yX9_commute, Cond.code yX9_commute cX9_commute 5 (some .boolean), Cond.methodLink RL 140 yL_conjugator, Cond.static yL_conjugator, Cond.codeWith yL_conjugator cL_conjugator 4 (some .int) [(0, 6, 7, 29), (0, 6, 11, 35), (0, 6, 15, 18)], Cond.methodLink RL 61 yX9_conjugator, Cond.instanceMethod yX9_conjugator, Cond.selects RX9 yX9_conjugator yX9_conjugator, Cond.code yX9_conjugator cX9_conjugator 6 (some .int), Cond.methodLink RX9 168 yX7_turnOfCore, Cond.instanceMethod yX7_turnOfCore, Cond.selects RX7 yX7_turnOfCore yX7_turnOfCore, Cond.code yX7_turnOfCore cX7_turnOfCore 4 (some .int), Cond.methodLink RX7 31 yX7_coreSize, Cond.methodLink RX7 34 yX7_isTurned, Cond.instanceMethod yX7_isTurned, Cond.selects RX7 yX7_isTurned yX7_isTurned, Cond.code yX7_isTurned cX7_isTurned 8 (some .boolean), Cond.methodLink RX9 173 yX9_setConjugator, Cond.instanceMethod yX9_setConjugator, Cond.selects RX9 yX9_setConjugator yX9_setConjugator, Cond.code yX9_setConjugator cX9_setConjugator 7 none]
def wsL_law0_r17 : List Cond := [Cond.methodLink RX9 177 yX7_coreStart, Cond.methodLink RX9 180 yX7_addPart, Cond.instanceMethod yX7_addPart, Cond.selects RX7 yX7_addPart yX7_addPart, Cond.code yX7_addPart cX7_addPart 6 none, Cond.methodLink RX9 184 yX7_addPartInverse, Cond.instanceMethod yX7_addPartInverse, Cond.selects RX7 yX7_addPartInverse yX7_addPartInverse, Cond.code yX7_addPartInverse cX7_addPartInverse 6 none, Cond.methodLink RL 142 yX9_isSound, Cond.instanceMethod yX9_isSound, Cond.selects RX9 yX9_isSound yX9_isSound, Cond.code yX9_isSound cX9_isSound 4 (some .boolean), Cond.fieldLink RX9 373 "Foldrose" "groupCount" "I", Cond.fieldLink RX9 314 "Foldrose" "mapCount" "I", Cond.fieldLink RX9 326 "Foldrose$Images" "rows" "[LFoldrose$Row;", Cond.methodLink RX9 381 yX7_isCancelled, Cond.instanceMethod yX7_isCancelled, Cond.selects RX7 yX7_isCancelled yX7_isCancelled, Cond.code yX7_isCancelled cX7_isCancelled 2 (some .boolean), Cond.methodLink RX9 384 yX2_isConsistent, Cond.instanceMethod yX2_isConsistent, Cond.selects RX2 yX2_isConsistent yX2_isConsistent, Cond.code yX2_isConsistent cX2_isConsistent 3 (some .boolean)]
def wsL_law0_r18 : List Cond := [Cond.fieldLink RX2 35 "Foldrose$Graph" "loopCount" "I", Cond.fieldLink RX2 53 "Foldrose$Graph" "size" "I", Cond.fieldLink RX2 27 "Foldrose$Group" "generatorCount" "I", Cond.methodLink RX2 45 yX1_leadsBack, Cond.instanceMethod yX1_leadsBack, Cond.selects RX1 yX1_leadsBack yX1_leadsBack, Cond.code yX1_leadsBack cX1_leadsBack 4 (some .boolean), Cond.fieldLink RX1 33 "Foldrose$Graph" "size" "I", Cond.methodLink RX1 42 yX1_step, Cond.instanceMethod yX1_step, Cond.selects RX1 yX1_step yX1_step, Cond.code yX1_step cX1_step 3 (some .int), Cond.methodLink RX2 49 yX1_edgeCount, Cond.instanceMethod yX1_edgeCount, Cond.selects RX1 yX1_edgeCount yX1_edgeCount, Cond.code yX1_edgeCount cX1_edgeCount 4 (some .int), Cond.methodLink RX2 56 yX1_walk, Cond.instanceMethod yX1_walk, Cond.selects RX1 yX1_walk yX1_walk, Cond.code yX1_walk cX1_walk 4 (some .int), Cond.fieldLink RX1 37 "Foldrose$Row" "size" "I", Cond.fieldLink RX1 38 "Foldrose$Row" "letters" "[B"]
def wsL_law0 : List Cond := (wsL_law0_r1 ++ (wsL_law0_r2 ++ (wsL_law0_r3 ++ (wsL_law0_r4 ++ (wsL_law0_r5 ++ (wsL_law0_r6 ++ (wsL_law0_r7 ++ (wsL_law0_r8 ++ (wsL_law0_r9 ++ (wsL_law0_r10 ++ (wsL_law0_r11 ++ (wsL_law0_r12 ++ (wsL_law0_r13 ++ (wsL_law0_r14 ++ (wsL_law0_r15 ++ (wsL_law0_r16 ++ (wsL_law0_r17 ++ wsL_law0_r18))))))))))))))))) ++ wsX90 ++ wsX70 ++ wsX10 ++ wsX50 ++ wsX00 ++ wsX60 ++ wsX80 ++ wsX40 ++ wsX20 ++ wsX30 ++ wsJ00 ++ ([] : List Cond)
def wsL_law : List Cond := wsL_law0 ++ (vx_atS RX9 104 "java/lang/IllegalStateException" ["java/lang/RuntimeException", "java/lang/Exception"]).filter goodWord ++ (vx_atM "java/lang/ArrayIndexOutOfBoundsException" ["java/lang/IndexOutOfBoundsException", "java/lang/RuntimeException", "java/lang/Exception"]).filter goodWord ++ (vx_atS RX9 151 "java/lang/IllegalArgumentException" ["java/lang/RuntimeException", "java/lang/Exception"]).filter goodWord ++ (vx_atS RX9 391 "java/lang/IndexOutOfBoundsException" ["java/lang/RuntimeException", "java/lang/Exception"]).filter goodWord ++ fz_atN.filter goodWord
abbrev vwCl : List vw_C := [(RJ0, TJ0, 2), (RJx00060, TJx00060, 6), (RX0, TX0, 4), (RX1, TX1, 7), (RX2, TX2, 3), (RX3, TX3, 4), (RX4, TX4, 5), (RX5, TX5, 9), (RX6, TX6, 2), (RX7, TX7, 2), (RX8, TX8, 6), (RX9, TX9, 18)]
end
section
set_option maxRecDepth 100000 in
theorem wsL_law_in0_r1 : ∀ w ∈ wsL_law0_r1, w ∈ lw_tbl := fun w h => (goodIn_p wsL_law0_r1 [34, 37] (by decide +kernel) (by decide +kernel) w h).1
set_option maxRecDepth 100000 in
theorem wsL_law_in0_r2 : ∀ w ∈ wsL_law0_r2, w ∈ lw_tbl := fun w h => (goodIn_p wsL_law0_r2 [] (by decide +kernel) (by decide +kernel) w h).1
set_option maxRecDepth 100000 in
theorem wsL_law_in0_r3 : ∀ w ∈ wsL_law0_r3, w ∈ lw_tbl := fun w h => (goodIn_p wsL_law0_r3 [47, 66] (by decide +kernel) (by decide +kernel) w h).1
set_option maxRecDepth 100000 in
theorem wsL_law_in0_r4 : ∀ w ∈ wsL_law0_r4, w ∈ lw_tbl := fun w h => (goodIn_p wsL_law0_r4 [98, 130, 151] (by decide +kernel) (by decide +kernel) w h).1
set_option maxRecDepth 100000 in
theorem wsL_law_in0_r5 : ∀ w ∈ wsL_law0_r5, w ∈ lw_tbl := fun w h => (goodIn_p wsL_law0_r5 [165, 189, 211] (by decide +kernel) (by decide +kernel) w h).1
set_option maxRecDepth 100000 in
theorem wsL_law_in0_r6 : ∀ w ∈ wsL_law0_r6, w ∈ lw_tbl := fun w h => (goodIn_p wsL_law0_r6 [230, 343] (by decide +kernel) (by decide +kernel) w h).1
set_option maxRecDepth 100000 in
theorem wsL_law_in0_r7 : ∀ w ∈ wsL_law0_r7, w ∈ lw_tbl := fun w h => (goodIn_p wsL_law0_r7 [347, 306, 467] (by decide +kernel) (by decide +kernel) w h).1
set_option maxRecDepth 100000 in
theorem wsL_law_in0_r8 : ∀ w ∈ wsL_law0_r8, w ∈ lw_tbl := fun w h => (goodIn_p wsL_law0_r8 [471, 652, 655, 667, 661, 670] (by decide +kernel) (by decide +kernel) w h).1
set_option maxRecDepth 100000 in
theorem wsL_law_in0_r9 : ∀ w ∈ wsL_law0_r9, w ∈ lw_tbl := fun w h => (goodIn_p wsL_law0_r9 [675, 679, 684, 687, 692] (by decide +kernel) (by decide +kernel) w h).1
set_option maxRecDepth 100000 in
theorem wsL_law_in0_r10 : ∀ w ∈ wsL_law0_r10, w ∈ lw_tbl := fun w h => (goodIn_p wsL_law0_r10 [695, 698, 701, 705, 718] (by decide +kernel) (by decide +kernel) w h).1
set_option maxRecDepth 100000 in
theorem wsL_law_in0_r11 : ∀ w ∈ wsL_law0_r11, w ∈ lw_tbl := fun w h => (goodIn_p wsL_law0_r11 [532, 540, 544, 550, 722] (by decide +kernel) (by decide +kernel) w h).1
set_option maxRecDepth 100000 in
theorem wsL_law_in0_r12 : ∀ w ∈ wsL_law0_r12, w ∈ lw_tbl := fun w h => (goodIn_p wsL_law0_r12 [492, 525, 528, 536] (by decide +kernel) (by decide +kernel) w h).1
set_option maxRecDepth 100000 in
theorem wsL_law_in0_r13 : ∀ w ∈ wsL_law0_r13, w ∈ lw_tbl := fun w h => (goodIn_p wsL_law0_r13 [557, 561, 664, 514, 518] (by decide +kernel) (by decide +kernel) w h).1
set_option maxRecDepth 100000 in
theorem wsL_law_in0_r14 : ∀ w ∈ wsL_law0_r14, w ∈ lw_tbl := fun w h => (goodIn_p wsL_law0_r14 [568, 577, 581, 585] (by decide +kernel) (by decide +kernel) w h).1
set_option maxRecDepth 100000 in
theorem wsL_law_in0_r15 : ∀ w ∈ wsL_law0_r15, w ∈ lw_tbl := fun w h => (goodIn_p wsL_law0_r15 [592, 597, 601, 608, 612] (by decide +kernel) (by decide +kernel) w h).1
set_option maxRecDepth 100000 in
theorem wsL_law_in0_r16 : ∀ w ∈ wsL_law0_r16, w ∈ lw_tbl := fun w h => (goodIn_p wsL_law0_r16 [649, 619, 623, 628, 633] (by decide +kernel) (by decide +kernel) w h).1
set_option maxRecDepth 100000 in
theorem wsL_law_in0_r17 : ∀ w ∈ wsL_law0_r17, w ∈ lw_tbl := fun w h => (goodIn_p wsL_law0_r17 [638, 642, 310, 314, 318] (by decide +kernel) (by decide +kernel) w h).1
set_option maxRecDepth 100000 in
theorem wsL_law_in0_r18 : ∀ w ∈ wsL_law0_r18, w ∈ lw_tbl := fun w h => (goodIn_p wsL_law0_r18 [322, 326, 330, 334] (by decide +kernel) (by decide +kernel) w h).1
set_option maxRecDepth 100000 in
theorem fz_inl_wsX90 : ∀ w ∈ wsX90, w ∈ lw_tbl := by decide +kernel
set_option maxRecDepth 100000 in
theorem fz_inl_wsX70 : ∀ w ∈ wsX70, w ∈ lw_tbl := by decide +kernel
set_option maxRecDepth 100000 in
theorem fz_inl_wsX10 : ∀ w ∈ wsX10, w ∈ lw_tbl := by decide +kernel
set_option maxRecDepth 100000 in
theorem fz_inl_wsX50 : ∀ w ∈ wsX50, w ∈ lw_tbl := by decide +kernel
set_option maxRecDepth 100000 in
theorem fz_inl_wsX00 : ∀ w ∈ wsX00, w ∈ lw_tbl := by decide +kernel
set_option maxRecDepth 100000 in
theorem fz_inl_wsX60 : ∀ w ∈ wsX60, w ∈ lw_tbl := by decide +kernel
set_option maxRecDepth 100000 in
theorem fz_inl_wsX80 : ∀ w ∈ wsX80, w ∈ lw_tbl := by decide +kernel
set_option maxRecDepth 100000 in
theorem fz_inl_wsX40 : ∀ w ∈ wsX40, w ∈ lw_tbl := by decide +kernel
set_option maxRecDepth 100000 in
theorem fz_inl_wsX20 : ∀ w ∈ wsX20, w ∈ lw_tbl := by decide +kernel
set_option maxRecDepth 100000 in
theorem fz_inl_wsX30 : ∀ w ∈ wsX30, w ∈ lw_tbl := by decide +kernel
set_option maxRecDepth 100000 in
theorem fz_inl_wsJ00 : ∀ w ∈ wsJ00, w ∈ lw_tbl := by decide +kernel
theorem wsL_law_in0 : ∀ w ∈ wsL_law0, w ∈ lw_tbl := by
  intro w h
  unfold wsL_law0 at h
  simp only [List.mem_append] at h
  rcases h with (((((((((((((h | h | h | h | h | h | h | h | h | h | h | h | h | h | h | h | h | h) | h) | h) | h) | h) | h) | h) | h) | h) | h) | h) | h) | h)
  · exact wsL_law_in0_r1 w h
  · exact wsL_law_in0_r2 w h
  · exact wsL_law_in0_r3 w h
  · exact wsL_law_in0_r4 w h
  · exact wsL_law_in0_r5 w h
  · exact wsL_law_in0_r6 w h
  · exact wsL_law_in0_r7 w h
  · exact wsL_law_in0_r8 w h
  · exact wsL_law_in0_r9 w h
  · exact wsL_law_in0_r10 w h
  · exact wsL_law_in0_r11 w h
  · exact wsL_law_in0_r12 w h
  · exact wsL_law_in0_r13 w h
  · exact wsL_law_in0_r14 w h
  · exact wsL_law_in0_r15 w h
  · exact wsL_law_in0_r16 w h
  · exact wsL_law_in0_r17 w h
  · exact wsL_law_in0_r18 w h
  · exact fz_inl_wsX90 w h
  · exact fz_inl_wsX70 w h
  · exact fz_inl_wsX10 w h
  · exact fz_inl_wsX50 w h
  · exact fz_inl_wsX00 w h
  · exact fz_inl_wsX60 w h
  · exact fz_inl_wsX80 w h
  · exact fz_inl_wsX40 w h
  · exact fz_inl_wsX20 w h
  · exact fz_inl_wsX30 w h
  · exact fz_inl_wsJ00 w h
  · cases h
theorem wsL_law_x0 : ∀ w ∈ (vx_atS RX9 104 "java/lang/IllegalStateException" ["java/lang/RuntimeException", "java/lang/Exception"]).filter goodWord, w ∈ lw_tbl := by decide +kernel
theorem wsL_law_x1 : ∀ w ∈ (vx_atM "java/lang/ArrayIndexOutOfBoundsException" ["java/lang/IndexOutOfBoundsException", "java/lang/RuntimeException", "java/lang/Exception"]).filter goodWord, w ∈ lw_tbl := by decide +kernel
theorem wsL_law_x2 : ∀ w ∈ (vx_atS RX9 151 "java/lang/IllegalArgumentException" ["java/lang/RuntimeException", "java/lang/Exception"]).filter goodWord, w ∈ lw_tbl := by decide +kernel
theorem wsL_law_x3 : ∀ w ∈ (vx_atS RX9 391 "java/lang/IndexOutOfBoundsException" ["java/lang/RuntimeException", "java/lang/Exception"]).filter goodWord, w ∈ lw_tbl := by decide +kernel
theorem wsL_law_x4 : ∀ w ∈ fz_atN.filter goodWord, w ∈ lw_tbl := by decide +kernel
theorem wsL_law_in : ∀ w ∈ wsL_law, w ∈ lw_tbl := fun w h => (List.mem_append.mp h).elim (fun h => (List.mem_append.mp h).elim (fun h => (List.mem_append.mp h).elim (fun h => (List.mem_append.mp h).elim (fun h => (List.mem_append.mp h).elim (fun h => wsL_law_in0 w h) (fun h => wsL_law_x0 w h)) (fun h => wsL_law_x1 w h)) (fun h => wsL_law_x2 w h)) (fun h => wsL_law_x3 w h)) (fun h => wsL_law_x4 w h)
theorem inlX0 : ∀ w ∈ wsX00, w ∈ wsL_law := fun _ h => List.mem_append_left _ (List.mem_append_left _ (List.mem_append_left _ (List.mem_append_left _ (List.mem_append_left _ (List.mem_append_left _ (List.mem_append_left _ (List.mem_append_left _ (List.mem_append_left _ (List.mem_append_left _ (List.mem_append_left _ (List.mem_append_left _ (List.mem_append_right _ h))))))))))))
theorem inX0 : ∀ w ∈ wsX00, w ∈ lw_tbl := fun w h => wsL_law_in w (inlX0 w h)
theorem inlX1 : ∀ w ∈ wsX10, w ∈ wsL_law := fun _ h => List.mem_append_left _ (List.mem_append_left _ (List.mem_append_left _ (List.mem_append_left _ (List.mem_append_left _ (List.mem_append_left _ (List.mem_append_left _ (List.mem_append_left _ (List.mem_append_left _ (List.mem_append_left _ (List.mem_append_left _ (List.mem_append_left _ (List.mem_append_left _ (List.mem_append_left _ (List.mem_append_right _ h))))))))))))))
theorem inX1 : ∀ w ∈ wsX10, w ∈ lw_tbl := fun w h => wsL_law_in w (inlX1 w h)
theorem inlX2 : ∀ w ∈ wsX20, w ∈ wsL_law := fun _ h => List.mem_append_left _ (List.mem_append_left _ (List.mem_append_left _ (List.mem_append_left _ (List.mem_append_left _ (List.mem_append_left _ (List.mem_append_left _ (List.mem_append_left _ (List.mem_append_right _ h))))))))
theorem inX2 : ∀ w ∈ wsX20, w ∈ lw_tbl := fun w h => wsL_law_in w (inlX2 w h)
theorem inlX3 : ∀ w ∈ wsX30, w ∈ wsL_law := fun _ h => List.mem_append_left _ (List.mem_append_left _ (List.mem_append_left _ (List.mem_append_left _ (List.mem_append_left _ (List.mem_append_left _ (List.mem_append_left _ (List.mem_append_right _ h)))))))
theorem inX3 : ∀ w ∈ wsX30, w ∈ lw_tbl := fun w h => wsL_law_in w (inlX3 w h)
theorem inlX4 : ∀ w ∈ wsX40, w ∈ wsL_law := fun _ h => List.mem_append_left _ (List.mem_append_left _ (List.mem_append_left _ (List.mem_append_left _ (List.mem_append_left _ (List.mem_append_left _ (List.mem_append_left _ (List.mem_append_left _ (List.mem_append_left _ (List.mem_append_right _ h)))))))))
theorem inX4 : ∀ w ∈ wsX40, w ∈ lw_tbl := fun w h => wsL_law_in w (inlX4 w h)
theorem inlX5 : ∀ w ∈ wsX50, w ∈ wsL_law := fun _ h => List.mem_append_left _ (List.mem_append_left _ (List.mem_append_left _ (List.mem_append_left _ (List.mem_append_left _ (List.mem_append_left _ (List.mem_append_left _ (List.mem_append_left _ (List.mem_append_left _ (List.mem_append_left _ (List.mem_append_left _ (List.mem_append_left _ (List.mem_append_left _ (List.mem_append_right _ h)))))))))))))
theorem inX5 : ∀ w ∈ wsX50, w ∈ lw_tbl := fun w h => wsL_law_in w (inlX5 w h)
theorem inlX6 : ∀ w ∈ wsX60, w ∈ wsL_law := fun _ h => List.mem_append_left _ (List.mem_append_left _ (List.mem_append_left _ (List.mem_append_left _ (List.mem_append_left _ (List.mem_append_left _ (List.mem_append_left _ (List.mem_append_left _ (List.mem_append_left _ (List.mem_append_left _ (List.mem_append_left _ (List.mem_append_right _ h)))))))))))
theorem inX6 : ∀ w ∈ wsX60, w ∈ lw_tbl := fun w h => wsL_law_in w (inlX6 w h)
theorem inlX7 : ∀ w ∈ wsX70, w ∈ wsL_law := fun _ h => List.mem_append_left _ (List.mem_append_left _ (List.mem_append_left _ (List.mem_append_left _ (List.mem_append_left _ (List.mem_append_left _ (List.mem_append_left _ (List.mem_append_left _ (List.mem_append_left _ (List.mem_append_left _ (List.mem_append_left _ (List.mem_append_left _ (List.mem_append_left _ (List.mem_append_left _ (List.mem_append_left _ (List.mem_append_right _ h)))))))))))))))
theorem inX7 : ∀ w ∈ wsX70, w ∈ lw_tbl := fun w h => wsL_law_in w (inlX7 w h)
theorem inlX8 : ∀ w ∈ wsX80, w ∈ wsL_law := fun _ h => List.mem_append_left _ (List.mem_append_left _ (List.mem_append_left _ (List.mem_append_left _ (List.mem_append_left _ (List.mem_append_left _ (List.mem_append_left _ (List.mem_append_left _ (List.mem_append_left _ (List.mem_append_left _ (List.mem_append_right _ h))))))))))
theorem inX8 : ∀ w ∈ wsX80, w ∈ lw_tbl := fun w h => wsL_law_in w (inlX8 w h)
theorem inlX9 : ∀ w ∈ wsX90, w ∈ wsL_law := fun _ h => List.mem_append_left _ (List.mem_append_left _ (List.mem_append_left _ (List.mem_append_left _ (List.mem_append_left _ (List.mem_append_left _ (List.mem_append_left _ (List.mem_append_left _ (List.mem_append_left _ (List.mem_append_left _ (List.mem_append_left _ (List.mem_append_left _ (List.mem_append_left _ (List.mem_append_left _ (List.mem_append_left _ (List.mem_append_left _ (List.mem_append_right _ h))))))))))))))))
theorem inX9 : ∀ w ∈ wsX90, w ∈ lw_tbl := fun w h => wsL_law_in w (inlX9 w h)
theorem inX10 : ∀ w ∈ wsX100, w ∈ lw_tbl := by decide +kernel
theorem inX11 : ∀ w ∈ wsX110, w ∈ lw_tbl := by decide +kernel
theorem inJx145de : ∀ w ∈ wsJx145de0, w ∈ lw_tbl := by decide +kernel
theorem inJx00060 : ∀ w ∈ wsJx000600, w ∈ lw_tbl := by decide +kernel
theorem inJx9f9b0 : ∀ w ∈ wsJx9f9b00, w ∈ lw_tbl := by decide +kernel
theorem inJxb160c : ∀ w ∈ wsJxb160c0, w ∈ lw_tbl := by decide +kernel
theorem inlJ0 : ∀ w ∈ wsJ00, w ∈ wsL_law := fun _ h => List.mem_append_left _ (List.mem_append_left _ (List.mem_append_left _ (List.mem_append_left _ (List.mem_append_left _ (List.mem_append_left _ (List.mem_append_right _ h))))))
theorem inJ0 : ∀ w ∈ wsJ00, w ∈ lw_tbl := fun w h => wsL_law_in w (inlJ0 w h)
theorem inJ1 : ∀ w ∈ wsJ10, w ∈ lw_tbl := by decide +kernel
theorem inJ2 : ∀ w ∈ wsJ20, w ∈ lw_tbl := by decide +kernel
theorem inJxfd54e : ∀ w ∈ wsJxfd54e0, w ∈ lw_tbl := by decide +kernel
theorem inJx3cf43 : ∀ w ∈ wsJx3cf430, w ∈ lw_tbl := by decide +kernel
theorem inJ3 : ∀ w ∈ wsJ30, w ∈ lw_tbl := by decide +kernel
end
section
set_option maxRecDepth 20000 in
theorem ggX0_init_X1_init : GoodIn wsX0_init wsX1_init := goodIn_r _ [13, 14, 2, 3, 9, 15, 16, 17, 18, 19, 20, 21, 22, 23, 24, 25, 26, 27, 28, 29, 30, 31, 32, 33, 34, 35, 40, 41] (by decide +kernel) (by decide +kernel)
set_option maxRecDepth 20000 in
theorem gX0_init_X1_init_n11 : GoodIn wsX0_init (wsX1_init) := ggX0_init_X1_init
theorem dX0_init_0 : decode cX0_init 0 = .ok (.aload_n 0, 1) := by decide +kernel
theorem dX0_init_1 : decode cX0_init 1 = .ok (.invokespecial 3, 3) := by decide +kernel
theorem dX0_init_4 : decode cX0_init 4 = .ok (.aload_n 0, 1) := by decide +kernel
theorem dX0_init_5 : decode cX0_init 5 = .ok (.new 9, 3) := by decide +kernel
theorem dX0_init_8 : decode cX0_init 8 = .ok (.dup, 1) := by decide +kernel
theorem dX0_init_9 : decode cX0_init 9 = .ok (.invokespecial 11, 3) := by decide +kernel
theorem dX0_init_12 : decode cX0_init 12 = .ok (.putfield 12, 3) := by decide +kernel
theorem dX0_init_15 : decode cX0_init 15 = .ok (.aload_n 0, 1) := by decide +kernel
theorem dX0_init_16 : decode cX0_init 16 = .ok (.new 9, 3) := by decide +kernel
theorem dX0_init_19 : decode cX0_init 19 = .ok (.dup, 1) := by decide +kernel
theorem dX0_init_20 : decode cX0_init 20 = .ok (.invokespecial 11, 3) := by decide +kernel
theorem dX0_init_23 : decode cX0_init 23 = .ok (.putfield 18, 3) := by decide +kernel
theorem dX0_init_26 : decode cX0_init 26 = .ok (.aload_n 0, 1) := by decide +kernel
theorem dX0_init_27 : decode cX0_init 27 = .ok (.bipush 40, 2) := by decide +kernel
theorem dX0_init_29 : decode cX0_init 29 = .ok (.newarray .int, 2) := by decide +kernel
theorem dX0_init_31 : decode cX0_init 31 = .ok (.putfield 21, 3) := by decide +kernel
theorem dX0_init_34 : decode cX0_init 34 = .ok (.aload_n 0, 1) := by decide +kernel
theorem dX0_init_35 : decode cX0_init 35 = .ok (.bipush 40, 2) := by decide +kernel
theorem dX0_init_37 : decode cX0_init 37 = .ok (.newarray .int, 2) := by decide +kernel
theorem dX0_init_39 : decode cX0_init 39 = .ok (.putfield 25, 3) := by decide +kernel
theorem dX0_init_42 : decode cX0_init 42 = .ok (.return_, 1) := by decide +kernel
set_option maxRecDepth 20000 in
theorem ggX1_init_X7_init : GoodIn wsX1_init wsX7_init := goodIn_r _ [15, 16, 2, 3, 17, 18, 26, 27] (by decide +kernel) (by decide +kernel)
set_option maxRecDepth 20000 in
theorem gX1_init_X7_init : GoodIn wsX1_init (wsX7_init) := ggX1_init_X7_init
theorem dX1_init_0 : decode cX1_init 0 = .ok (.aload_n 0, 1) := by decide +kernel
theorem dX1_init_1 : decode cX1_init 1 = .ok (.invokespecial 3, 3) := by decide +kernel
theorem dX1_init_4 : decode cX1_init 4 = .ok (.aload_n 0, 1) := by decide +kernel
theorem dX1_init_5 : decode cX1_init 5 = .ok (.sipush 240, 3) := by decide +kernel
theorem dX1_init_8 : decode cX1_init 8 = .ok (.newarray .int, 2) := by decide +kernel
theorem dX1_init_10 : decode cX1_init 10 = .ok (.putfield 9, 3) := by decide +kernel
theorem dX1_init_13 : decode cX1_init 13 = .ok (.aload_n 0, 1) := by decide +kernel
theorem dX1_init_14 : decode cX1_init 14 = .ok (.bipush 40, 2) := by decide +kernel
theorem dX1_init_16 : decode cX1_init 16 = .ok (.newarray .int, 2) := by decide +kernel
theorem dX1_init_18 : decode cX1_init 18 = .ok (.putfield 15, 3) := by decide +kernel
theorem dX1_init_21 : decode cX1_init 21 = .ok (.aload_n 0, 1) := by decide +kernel
theorem dX1_init_22 : decode cX1_init 22 = .ok (.bipush 40, 2) := by decide +kernel
theorem dX1_init_24 : decode cX1_init 24 = .ok (.newarray .int, 2) := by decide +kernel
theorem dX1_init_26 : decode cX1_init 26 = .ok (.putfield 18, 3) := by decide +kernel
theorem dX1_init_29 : decode cX1_init 29 = .ok (.aload_n 0, 1) := by decide +kernel
theorem dX1_init_30 : decode cX1_init 30 = .ok (.bipush 120, 2) := by decide +kernel
theorem dX1_init_32 : decode cX1_init 32 = .ok (.newarray .int, 2) := by decide +kernel
theorem dX1_init_34 : decode cX1_init 34 = .ok (.putfield 21, 3) := by decide +kernel
theorem dX1_init_37 : decode cX1_init 37 = .ok (.aload_n 0, 1) := by decide +kernel
theorem dX1_init_38 : decode cX1_init 38 = .ok (.new 24, 3) := by decide +kernel
theorem dX1_init_41 : decode cX1_init 41 = .ok (.dup, 1) := by decide +kernel
theorem dX1_init_42 : decode cX1_init 42 = .ok (.bipush 40, 2) := by decide +kernel
theorem dX1_init_44 : decode cX1_init 44 = .ok (.invokespecial 26, 3) := by decide +kernel
theorem dX1_init_47 : decode cX1_init 47 = .ok (.putfield 29, 3) := by decide +kernel
theorem dX1_init_50 : decode cX1_init 50 = .ok (.return_, 1) := by decide +kernel
theorem dX1_step_0 : decode cX1_step 0 = .ok (.iload_n 1, 1) := by decide +kernel
theorem dX1_step_1 : decode cX1_step 1 = .ok (.ifCond .lt 21, 3) := by decide +kernel
theorem dX1_step_4 : decode cX1_step 4 = .ok (.iload_n 1, 1) := by decide +kernel
theorem dX1_step_5 : decode cX1_step 5 = .ok (.aload_n 0, 1) := by decide +kernel
theorem dX1_step_6 : decode cX1_step 6 = .ok (.getfield 33, 3) := by decide +kernel
theorem dX1_step_9 : decode cX1_step 9 = .ok (.if_icmp .ge 13, 3) := by decide +kernel
theorem dX1_step_12 : decode cX1_step 12 = .ok (.iload_n 2, 1) := by decide +kernel
theorem dX1_step_13 : decode cX1_step 13 = .ok (.ifCond .lt 9, 3) := by decide +kernel
theorem dX1_step_16 : decode cX1_step 16 = .ok (.iload_n 2, 1) := by decide +kernel
theorem dX1_step_17 : decode cX1_step 17 = .ok (.bipush 6, 2) := by decide +kernel
theorem dX1_step_19 : decode cX1_step 19 = .ok (.if_icmp .lt 5, 3) := by decide +kernel
theorem dX1_step_22 : decode cX1_step 22 = .ok (.iconst (-1), 1) := by decide +kernel
theorem dX1_step_23 : decode cX1_step 23 = .ok (.ireturn, 1) := by decide +kernel
theorem dX1_step_24 : decode cX1_step 24 = .ok (.aload_n 0, 1) := by decide +kernel
theorem dX1_step_25 : decode cX1_step 25 = .ok (.getfield 9, 3) := by decide +kernel
theorem dX1_step_28 : decode cX1_step 28 = .ok (.iload_n 1, 1) := by decide +kernel
theorem dX1_step_29 : decode cX1_step 29 = .ok (.bipush 6, 2) := by decide +kernel
theorem dX1_step_31 : decode cX1_step 31 = .ok (.imul, 1) := by decide +kernel
theorem dX1_step_32 : decode cX1_step 32 = .ok (.iload_n 2, 1) := by decide +kernel
theorem dX1_step_33 : decode cX1_step 33 = .ok (.iadd, 1) := by decide +kernel
theorem dX1_step_34 : decode cX1_step 34 = .ok (.iaload, 1) := by decide +kernel
theorem dX1_step_35 : decode cX1_step 35 = .ok (.ireturn, 1) := by decide +kernel
set_option maxRecDepth 20000 in
theorem ggX1_walk_X1_step : GoodIn wsX1_walk wsX1_step := goodIn_ca (goodIn_r _ [7, 8, 9, 12, 13, 14, 15, 16, 17, 18] (by decide +kernel) (by decide +kernel)) (goodIn_sub (fun _ h => List.mem_cons_of_mem _ (List.mem_append_right _ h)) (by decide +kernel))
set_option maxRecDepth 20000 in
theorem gX1_walk_X1_step : GoodIn wsX1_walk (wsV RX1 42 RX1 yX1_step wsX1_step) := goodIn_app (goodIn_of _ (by decide +kernel)) ggX1_walk_X1_step
theorem dX1_walk_0 : decode cX1_walk 0 = .ok (.iconst 0, 1) := by decide +kernel
theorem dX1_walk_1 : decode cX1_walk 1 = .ok (.istore_n 2, 1) := by decide +kernel
theorem dX1_walk_2 : decode cX1_walk 2 = .ok (.iconst 0, 1) := by decide +kernel
theorem dX1_walk_3 : decode cX1_walk 3 = .ok (.istore_n 3, 1) := by decide +kernel
theorem dX1_walk_4 : decode cX1_walk 4 = .ok (.iload_n 3, 1) := by decide +kernel
theorem dX1_walk_5 : decode cX1_walk 5 = .ok (.aload_n 1, 1) := by decide +kernel
theorem dX1_walk_6 : decode cX1_walk 6 = .ok (.getfield 37, 3) := by decide +kernel
theorem dX1_walk_9 : decode cX1_walk 9 = .ok (.if_icmp .ge 21, 3) := by decide +kernel
theorem dX1_walk_12 : decode cX1_walk 12 = .ok (.aload_n 0, 1) := by decide +kernel
theorem dX1_walk_13 : decode cX1_walk 13 = .ok (.iload_n 2, 1) := by decide +kernel
theorem dX1_walk_14 : decode cX1_walk 14 = .ok (.aload_n 1, 1) := by decide +kernel
theorem dX1_walk_15 : decode cX1_walk 15 = .ok (.getfield 38, 3) := by decide +kernel
theorem dX1_walk_18 : decode cX1_walk 18 = .ok (.iload_n 3, 1) := by decide +kernel
theorem dX1_walk_19 : decode cX1_walk 19 = .ok (.baload, 1) := by decide +kernel
theorem dX1_walk_20 : decode cX1_walk 20 = .ok (.invokevirtual 42, 3) := by decide +kernel
theorem dX1_walk_23 : decode cX1_walk 23 = .ok (.istore_n 2, 1) := by decide +kernel
theorem dX1_walk_24 : decode cX1_walk 24 = .ok (.iinc 3 1, 3) := by decide +kernel
theorem dX1_walk_27 : decode cX1_walk 27 = .ok (.goto (-23), 3) := by decide +kernel
theorem dX1_walk_30 : decode cX1_walk 30 = .ok (.iload_n 2, 1) := by decide +kernel
theorem dX1_walk_31 : decode cX1_walk 31 = .ok (.ireturn, 1) := by decide +kernel
set_option maxRecDepth 20000 in
theorem ggX1_edgeCount_X1_step : GoodIn wsX1_edgeCount wsX1_step := goodIn_ca (goodIn_r _ [6, 1, 7, 8, 9, 10, 11, 12, 13, 14] (by decide +kernel) (by decide +kernel)) (goodIn_sub (fun _ h => List.mem_cons_of_mem _ (List.mem_append_right _ h)) (by decide +kernel))
set_option maxRecDepth 20000 in
theorem gX1_edgeCount_X1_step : GoodIn wsX1_edgeCount (wsV RX1 42 RX1 yX1_step wsX1_step) := goodIn_app (goodIn_of _ (by decide +kernel)) ggX1_edgeCount_X1_step
theorem dX1_edgeCount_0 : decode cX1_edgeCount 0 = .ok (.iconst 0, 1) := by decide +kernel
theorem dX1_edgeCount_1 : decode cX1_edgeCount 1 = .ok (.istore_n 1, 1) := by decide +kernel
theorem dX1_edgeCount_2 : decode cX1_edgeCount 2 = .ok (.iconst 0, 1) := by decide +kernel
theorem dX1_edgeCount_3 : decode cX1_edgeCount 3 = .ok (.istore_n 2, 1) := by decide +kernel
theorem dX1_edgeCount_4 : decode cX1_edgeCount 4 = .ok (.iload_n 2, 1) := by decide +kernel
theorem dX1_edgeCount_5 : decode cX1_edgeCount 5 = .ok (.aload_n 0, 1) := by decide +kernel
theorem dX1_edgeCount_6 : decode cX1_edgeCount 6 = .ok (.getfield 33, 3) := by decide +kernel
theorem dX1_edgeCount_9 : decode cX1_edgeCount 9 = .ok (.if_icmp .ge 35, 3) := by decide +kernel
theorem dX1_edgeCount_12 : decode cX1_edgeCount 12 = .ok (.iconst 0, 1) := by decide +kernel
theorem dX1_edgeCount_13 : decode cX1_edgeCount 13 = .ok (.istore_n 3, 1) := by decide +kernel
theorem dX1_edgeCount_14 : decode cX1_edgeCount 14 = .ok (.iload_n 3, 1) := by decide +kernel
theorem dX1_edgeCount_15 : decode cX1_edgeCount 15 = .ok (.bipush 6, 2) := by decide +kernel
theorem dX1_edgeCount_17 : decode cX1_edgeCount 17 = .ok (.if_icmp .ge 21, 3) := by decide +kernel
theorem dX1_edgeCount_20 : decode cX1_edgeCount 20 = .ok (.aload_n 0, 1) := by decide +kernel
theorem dX1_edgeCount_21 : decode cX1_edgeCount 21 = .ok (.iload_n 2, 1) := by decide +kernel
theorem dX1_edgeCount_22 : decode cX1_edgeCount 22 = .ok (.iload_n 3, 1) := by decide +kernel
theorem dX1_edgeCount_23 : decode cX1_edgeCount 23 = .ok (.invokevirtual 42, 3) := by decide +kernel
theorem dX1_edgeCount_26 : decode cX1_edgeCount 26 = .ok (.ifCond .lt 6, 3) := by decide +kernel
theorem dX1_edgeCount_29 : decode cX1_edgeCount 29 = .ok (.iinc 1 1, 3) := by decide +kernel
theorem dX1_edgeCount_32 : decode cX1_edgeCount 32 = .ok (.iinc 3 2, 3) := by decide +kernel
theorem dX1_edgeCount_35 : decode cX1_edgeCount 35 = .ok (.goto (-21), 3) := by decide +kernel
theorem dX1_edgeCount_38 : decode cX1_edgeCount 38 = .ok (.iinc 2 1, 3) := by decide +kernel
theorem dX1_edgeCount_41 : decode cX1_edgeCount 41 = .ok (.goto (-37), 3) := by decide +kernel
theorem dX1_edgeCount_44 : decode cX1_edgeCount 44 = .ok (.iload_n 1, 1) := by decide +kernel
theorem dX1_edgeCount_45 : decode cX1_edgeCount 45 = .ok (.ireturn, 1) := by decide +kernel
set_option maxRecDepth 20000 in
theorem ggX1_leadsBack_X1_step : GoodIn wsX1_leadsBack wsX1_step := goodIn_ca (goodIn_r _ [6, 1, 7, 8, 9, 10, 11, 12, 13, 14] (by decide +kernel) (by decide +kernel)) (goodIn_sub (fun _ h => List.mem_cons_of_mem _ (List.mem_append_right _ h)) (by decide +kernel))
set_option maxRecDepth 20000 in
theorem gX1_leadsBack_X1_step : GoodIn wsX1_leadsBack (wsV RX1 42 RX1 yX1_step wsX1_step) := goodIn_app (goodIn_of _ (by decide +kernel)) ggX1_leadsBack_X1_step
theorem dX1_leadsBack_0 : decode cX1_leadsBack 0 = .ok (.iconst 0, 1) := by decide +kernel
theorem dX1_leadsBack_1 : decode cX1_leadsBack 1 = .ok (.istore_n 1, 1) := by decide +kernel
theorem dX1_leadsBack_2 : decode cX1_leadsBack 2 = .ok (.iload_n 1, 1) := by decide +kernel
theorem dX1_leadsBack_3 : decode cX1_leadsBack 3 = .ok (.aload_n 0, 1) := by decide +kernel
theorem dX1_leadsBack_4 : decode cX1_leadsBack 4 = .ok (.getfield 33, 3) := by decide +kernel
theorem dX1_leadsBack_7 : decode cX1_leadsBack 7 = .ok (.if_icmp .ge 48, 3) := by decide +kernel
theorem dX1_leadsBack_10 : decode cX1_leadsBack 10 = .ok (.iconst 0, 1) := by decide +kernel
theorem dX1_leadsBack_11 : decode cX1_leadsBack 11 = .ok (.istore_n 2, 1) := by decide +kernel
theorem dX1_leadsBack_12 : decode cX1_leadsBack 12 = .ok (.iload_n 2, 1) := by decide +kernel
theorem dX1_leadsBack_13 : decode cX1_leadsBack 13 = .ok (.bipush 6, 2) := by decide +kernel
theorem dX1_leadsBack_15 : decode cX1_leadsBack 15 = .ok (.if_icmp .ge 34, 3) := by decide +kernel
theorem dX1_leadsBack_18 : decode cX1_leadsBack 18 = .ok (.aload_n 0, 1) := by decide +kernel
theorem dX1_leadsBack_19 : decode cX1_leadsBack 19 = .ok (.iload_n 1, 1) := by decide +kernel
theorem dX1_leadsBack_20 : decode cX1_leadsBack 20 = .ok (.iload_n 2, 1) := by decide +kernel
theorem dX1_leadsBack_21 : decode cX1_leadsBack 21 = .ok (.invokevirtual 42, 3) := by decide +kernel
theorem dX1_leadsBack_24 : decode cX1_leadsBack 24 = .ok (.istore_n 3, 1) := by decide +kernel
theorem dX1_leadsBack_25 : decode cX1_leadsBack 25 = .ok (.iload_n 3, 1) := by decide +kernel
theorem dX1_leadsBack_26 : decode cX1_leadsBack 26 = .ok (.ifCond .lt 17, 3) := by decide +kernel
theorem dX1_leadsBack_29 : decode cX1_leadsBack 29 = .ok (.aload_n 0, 1) := by decide +kernel
theorem dX1_leadsBack_30 : decode cX1_leadsBack 30 = .ok (.iload_n 3, 1) := by decide +kernel
theorem dX1_leadsBack_31 : decode cX1_leadsBack 31 = .ok (.iload_n 2, 1) := by decide +kernel
theorem dX1_leadsBack_32 : decode cX1_leadsBack 32 = .ok (.iconst 1, 1) := by decide +kernel
theorem dX1_leadsBack_33 : decode cX1_leadsBack 33 = .ok (.ixor, 1) := by decide +kernel
theorem dX1_leadsBack_34 : decode cX1_leadsBack 34 = .ok (.invokevirtual 42, 3) := by decide +kernel
theorem dX1_leadsBack_37 : decode cX1_leadsBack 37 = .ok (.iload_n 1, 1) := by decide +kernel
theorem dX1_leadsBack_38 : decode cX1_leadsBack 38 = .ok (.if_icmp .eq 5, 3) := by decide +kernel
theorem dX1_leadsBack_41 : decode cX1_leadsBack 41 = .ok (.iconst 0, 1) := by decide +kernel
theorem dX1_leadsBack_42 : decode cX1_leadsBack 42 = .ok (.ireturn, 1) := by decide +kernel
theorem dX1_leadsBack_43 : decode cX1_leadsBack 43 = .ok (.iinc 2 1, 3) := by decide +kernel
theorem dX1_leadsBack_46 : decode cX1_leadsBack 46 = .ok (.goto (-34), 3) := by decide +kernel
theorem dX1_leadsBack_49 : decode cX1_leadsBack 49 = .ok (.iinc 1 1, 3) := by decide +kernel
theorem dX1_leadsBack_52 : decode cX1_leadsBack 52 = .ok (.goto (-50), 3) := by decide +kernel
theorem dX1_leadsBack_55 : decode cX1_leadsBack 55 = .ok (.iconst 1, 1) := by decide +kernel
theorem dX1_leadsBack_56 : decode cX1_leadsBack 56 = .ok (.ireturn, 1) := by decide +kernel
set_option maxRecDepth 20000 in
theorem ggX2_init_X1_init : GoodIn wsX2_init wsX1_init := goodIn_r _ [13, 14, 2, 3, 15, 16, 17, 18, 19, 20, 10, 11, 21, 22, 23, 24, 25, 26, 27, 29, 30, 31, 32, 33, 34, 35, 39, 40] (by decide +kernel) (by decide +kernel)
set_option maxRecDepth 20000 in
theorem gX2_init_X1_init_n11 : GoodIn wsX2_init (wsX1_init) := ggX2_init_X1_init
set_option maxRecDepth 20000 in
theorem ggX2_init_X7_init : GoodIn wsX2_init wsX7_init := goodIn_r _ [24, 25, 2, 3, 26, 27, 39, 40] (by decide +kernel) (by decide +kernel)
set_option maxRecDepth 20000 in
theorem gX2_init_X7_init : GoodIn wsX2_init (wsX7_init) := ggX2_init_X7_init
theorem dX2_init_0 : decode cX2_init 0 = .ok (.aload_n 0, 1) := by decide +kernel
theorem dX2_init_1 : decode cX2_init 1 = .ok (.invokespecial 3, 3) := by decide +kernel
theorem dX2_init_4 : decode cX2_init 4 = .ok (.aload_n 0, 1) := by decide +kernel
theorem dX2_init_5 : decode cX2_init 5 = .ok (.new 9, 3) := by decide +kernel
theorem dX2_init_8 : decode cX2_init 8 = .ok (.dup, 1) := by decide +kernel
theorem dX2_init_9 : decode cX2_init 9 = .ok (.invokespecial 11, 3) := by decide +kernel
theorem dX2_init_12 : decode cX2_init 12 = .ok (.putfield 12, 3) := by decide +kernel
theorem dX2_init_15 : decode cX2_init 15 = .ok (.aload_n 0, 1) := by decide +kernel
theorem dX2_init_16 : decode cX2_init 16 = .ok (.bipush 81, 2) := by decide +kernel
theorem dX2_init_18 : decode cX2_init 18 = .ok (.anewarray 18, 3) := by decide +kernel
theorem dX2_init_21 : decode cX2_init 21 = .ok (.putfield 20, 3) := by decide +kernel
theorem dX2_init_24 : decode cX2_init 24 = .ok (.iconst 0, 1) := by decide +kernel
theorem dX2_init_25 : decode cX2_init 25 = .ok (.istore_n 1, 1) := by decide +kernel
theorem dX2_init_26 : decode cX2_init 26 = .ok (.iload_n 1, 1) := by decide +kernel
theorem dX2_init_27 : decode cX2_init 27 = .ok (.bipush 81, 2) := by decide +kernel
theorem dX2_init_29 : decode cX2_init 29 = .ok (.if_icmp .ge 24, 3) := by decide +kernel
theorem dX2_init_32 : decode cX2_init 32 = .ok (.aload_n 0, 1) := by decide +kernel
theorem dX2_init_33 : decode cX2_init 33 = .ok (.getfield 20, 3) := by decide +kernel
theorem dX2_init_36 : decode cX2_init 36 = .ok (.iload_n 1, 1) := by decide +kernel
theorem dX2_init_37 : decode cX2_init 37 = .ok (.new 18, 3) := by decide +kernel
theorem dX2_init_40 : decode cX2_init 40 = .ok (.dup, 1) := by decide +kernel
theorem dX2_init_41 : decode cX2_init 41 = .ok (.bipush 79, 2) := by decide +kernel
theorem dX2_init_43 : decode cX2_init 43 = .ok (.invokespecial 24, 3) := by decide +kernel
theorem dX2_init_46 : decode cX2_init 46 = .ok (.aastore, 1) := by decide +kernel
theorem dX2_init_47 : decode cX2_init 47 = .ok (.iinc 1 1, 3) := by decide +kernel
theorem dX2_init_50 : decode cX2_init 50 = .ok (.goto (-24), 3) := by decide +kernel
theorem dX2_init_53 : decode cX2_init 53 = .ok (.return_, 1) := by decide +kernel
set_option maxRecDepth 20000 in
theorem ggX2_isConsistent_X1_leadsBack : GoodIn wsX2_isConsistent wsX1_leadsBack := goodIn_ca (goodIn_r _ [10, 11, 12, 13, 14, 9, 15, 16, 30, 31, 32, 33, 34, 35, 36] (by decide +kernel) (by decide +kernel)) (goodIn_sub (fun _ h => List.mem_cons_of_mem _ (List.mem_append_right _ h)) (by decide +kernel))
set_option maxRecDepth 20000 in
theorem gX2_isConsistent_X1_leadsBack : GoodIn wsX2_isConsistent (wsV RX2 45 RX1 yX1_leadsBack wsX1_leadsBack) := goodIn_app (goodIn_of _ (by decide +kernel)) ggX2_isConsistent_X1_leadsBack
set_option maxRecDepth 20000 in
theorem ggX2_isConsistent_X1_edgeCount : GoodIn wsX2_isConsistent wsX1_edgeCount := goodIn_ca (goodIn_r _ [20, 11, 12, 13, 14, 9, 15, 16, 30, 31, 32, 33, 34, 35, 36] (by decide +kernel) (by decide +kernel)) (goodIn_sub (fun _ h => List.mem_cons_of_mem _ (List.mem_append_right _ h)) (by decide +kernel))
set_option maxRecDepth 20000 in
theorem gX2_isConsistent_X1_edgeCount : GoodIn wsX2_isConsistent (wsV RX2 49 RX1 yX1_edgeCount wsX1_edgeCount) := goodIn_app (goodIn_of _ (by decide +kernel)) ggX2_isConsistent_X1_edgeCount
set_option maxRecDepth 20000 in
theorem ggX2_isConsistent_X1_walk : GoodIn wsX2_isConsistent wsX1_walk := goodIn_ca (goodIn_r _ [24, 25, 26, 12, 13, 14, 9, 15, 11, 16, 37, 38, 30, 31, 32, 33, 34, 35, 36] (by decide +kernel) (by decide +kernel)) (goodIn_sub (fun _ h => List.mem_cons_of_mem _ (List.mem_append_right _ h)) (by decide +kernel))
set_option maxRecDepth 20000 in
theorem gX2_isConsistent_X1_walk : GoodIn wsX2_isConsistent (wsV RX2 56 RX1 yX1_walk wsX1_walk) := goodIn_app (goodIn_of _ (by decide +kernel)) ggX2_isConsistent_X1_walk
theorem dX2_isConsistent_0 : decode cX2_isConsistent 0 = .ok (.aload_n 0, 1) := by decide +kernel
theorem dX2_isConsistent_1 : decode cX2_isConsistent 1 = .ok (.getfield 12, 3) := by decide +kernel
theorem dX2_isConsistent_4 : decode cX2_isConsistent 4 = .ok (.invokevirtual 45, 3) := by decide +kernel
theorem dX2_isConsistent_7 : decode cX2_isConsistent 7 = .ok (.ifCond .eq 34, 3) := by decide +kernel
theorem dX2_isConsistent_10 : decode cX2_isConsistent 10 = .ok (.aload_n 0, 1) := by decide +kernel
theorem dX2_isConsistent_11 : decode cX2_isConsistent 11 = .ok (.getfield 12, 3) := by decide +kernel
theorem dX2_isConsistent_14 : decode cX2_isConsistent 14 = .ok (.getfield 35, 3) := by decide +kernel
theorem dX2_isConsistent_17 : decode cX2_isConsistent 17 = .ok (.aload_n 0, 1) := by decide +kernel
theorem dX2_isConsistent_18 : decode cX2_isConsistent 18 = .ok (.getfield 12, 3) := by decide +kernel
theorem dX2_isConsistent_21 : decode cX2_isConsistent 21 = .ok (.invokevirtual 49, 3) := by decide +kernel
theorem dX2_isConsistent_24 : decode cX2_isConsistent 24 = .ok (.aload_n 0, 1) := by decide +kernel
theorem dX2_isConsistent_25 : decode cX2_isConsistent 25 = .ok (.getfield 12, 3) := by decide +kernel
theorem dX2_isConsistent_28 : decode cX2_isConsistent 28 = .ok (.getfield 53, 3) := by decide +kernel
theorem dX2_isConsistent_31 : decode cX2_isConsistent 31 = .ok (.isub, 1) := by decide +kernel
theorem dX2_isConsistent_32 : decode cX2_isConsistent 32 = .ok (.iconst 1, 1) := by decide +kernel
theorem dX2_isConsistent_33 : decode cX2_isConsistent 33 = .ok (.iadd, 1) := by decide +kernel
theorem dX2_isConsistent_34 : decode cX2_isConsistent 34 = .ok (.if_icmp .ne 7, 3) := by decide +kernel
theorem dX2_isConsistent_37 : decode cX2_isConsistent 37 = .ok (.iconst 1, 1) := by decide +kernel
theorem dX2_isConsistent_38 : decode cX2_isConsistent 38 = .ok (.goto 4, 3) := by decide +kernel
theorem dX2_isConsistent_41 : decode cX2_isConsistent 41 = .ok (.iconst 0, 1) := by decide +kernel
theorem dX2_isConsistent_42 : decode cX2_isConsistent 42 = .ok (.istore_n 1, 1) := by decide +kernel
theorem dX2_isConsistent_43 : decode cX2_isConsistent 43 = .ok (.iconst 0, 1) := by decide +kernel
theorem dX2_isConsistent_44 : decode cX2_isConsistent 44 = .ok (.istore_n 2, 1) := by decide +kernel
theorem dX2_isConsistent_45 : decode cX2_isConsistent 45 = .ok (.iload_n 2, 1) := by decide +kernel
theorem dX2_isConsistent_46 : decode cX2_isConsistent 46 = .ok (.aload_n 0, 1) := by decide +kernel
theorem dX2_isConsistent_47 : decode cX2_isConsistent 47 = .ok (.getfield 27, 3) := by decide +kernel
theorem dX2_isConsistent_50 : decode cX2_isConsistent 50 = .ok (.if_icmp .ge 35, 3) := by decide +kernel
theorem dX2_isConsistent_53 : decode cX2_isConsistent 53 = .ok (.iload_n 1, 1) := by decide +kernel
theorem dX2_isConsistent_54 : decode cX2_isConsistent 54 = .ok (.ifCond .eq 23, 3) := by decide +kernel
theorem dX2_isConsistent_57 : decode cX2_isConsistent 57 = .ok (.aload_n 0, 1) := by decide +kernel
theorem dX2_isConsistent_58 : decode cX2_isConsistent 58 = .ok (.getfield 12, 3) := by decide +kernel
theorem dX2_isConsistent_61 : decode cX2_isConsistent 61 = .ok (.aload_n 0, 1) := by decide +kernel
theorem dX2_isConsistent_62 : decode cX2_isConsistent 62 = .ok (.getfield 20, 3) := by decide +kernel
theorem dX2_isConsistent_65 : decode cX2_isConsistent 65 = .ok (.iload_n 2, 1) := by decide +kernel
theorem dX2_isConsistent_66 : decode cX2_isConsistent 66 = .ok (.aaload, 1) := by decide +kernel
theorem dX2_isConsistent_67 : decode cX2_isConsistent 67 = .ok (.invokevirtual 56, 3) := by decide +kernel
theorem dX2_isConsistent_70 : decode cX2_isConsistent 70 = .ok (.ifCond .ne 7, 3) := by decide +kernel
theorem dX2_isConsistent_73 : decode cX2_isConsistent 73 = .ok (.iconst 1, 1) := by decide +kernel
theorem dX2_isConsistent_74 : decode cX2_isConsistent 74 = .ok (.goto 4, 3) := by decide +kernel
theorem dX2_isConsistent_77 : decode cX2_isConsistent 77 = .ok (.iconst 0, 1) := by decide +kernel
theorem dX2_isConsistent_78 : decode cX2_isConsistent 78 = .ok (.istore_n 1, 1) := by decide +kernel
theorem dX2_isConsistent_79 : decode cX2_isConsistent 79 = .ok (.iinc 2 1, 3) := by decide +kernel
theorem dX2_isConsistent_82 : decode cX2_isConsistent 82 = .ok (.goto (-37), 3) := by decide +kernel
theorem dX2_isConsistent_85 : decode cX2_isConsistent 85 = .ok (.iload_n 1, 1) := by decide +kernel
theorem dX2_isConsistent_86 : decode cX2_isConsistent 86 = .ok (.ireturn, 1) := by decide +kernel
set_option maxRecDepth 20000 in
theorem ggX3_init_X7_init : GoodIn wsX3_init wsX7_init := goodIn_r _ [15, 16, 2, 3, 17, 18, 23, 24] (by decide +kernel) (by decide +kernel)
set_option maxRecDepth 20000 in
theorem gX3_init_X7_init : GoodIn wsX3_init (wsX7_init) := ggX3_init_X7_init
theorem dX3_init_0 : decode cX3_init 0 = .ok (.aload_n 0, 1) := by decide +kernel
theorem dX3_init_1 : decode cX3_init 1 = .ok (.invokespecial 3, 3) := by decide +kernel
theorem dX3_init_4 : decode cX3_init 4 = .ok (.aload_n 0, 1) := by decide +kernel
theorem dX3_init_5 : decode cX3_init 5 = .ok (.iconst 3, 1) := by decide +kernel
theorem dX3_init_6 : decode cX3_init 6 = .ok (.anewarray 9, 3) := by decide +kernel
theorem dX3_init_9 : decode cX3_init 9 = .ok (.putfield 11, 3) := by decide +kernel
theorem dX3_init_12 : decode cX3_init 12 = .ok (.aload_n 0, 1) := by decide +kernel
theorem dX3_init_13 : decode cX3_init 13 = .ok (.bipush 6, 2) := by decide +kernel
theorem dX3_init_15 : decode cX3_init 15 = .ok (.newarray .int, 2) := by decide +kernel
theorem dX3_init_17 : decode cX3_init 17 = .ok (.putfield 17, 3) := by decide +kernel
theorem dX3_init_20 : decode cX3_init 20 = .ok (.aload_n 0, 1) := by decide +kernel
theorem dX3_init_21 : decode cX3_init 21 = .ok (.iconst 3, 1) := by decide +kernel
theorem dX3_init_22 : decode cX3_init 22 = .ok (.newarray .long, 2) := by decide +kernel
theorem dX3_init_24 : decode cX3_init 24 = .ok (.putfield 21, 3) := by decide +kernel
theorem dX3_init_27 : decode cX3_init 27 = .ok (.aload_n 0, 1) := by decide +kernel
theorem dX3_init_28 : decode cX3_init 28 = .ok (.iconst 3, 1) := by decide +kernel
theorem dX3_init_29 : decode cX3_init 29 = .ok (.newarray .long, 2) := by decide +kernel
theorem dX3_init_31 : decode cX3_init 31 = .ok (.putfield 25, 3) := by decide +kernel
theorem dX3_init_34 : decode cX3_init 34 = .ok (.iconst 0, 1) := by decide +kernel
theorem dX3_init_35 : decode cX3_init 35 = .ok (.istore_n 1, 1) := by decide +kernel
theorem dX3_init_36 : decode cX3_init 36 = .ok (.iload_n 1, 1) := by decide +kernel
theorem dX3_init_37 : decode cX3_init 37 = .ok (.iconst 3, 1) := by decide +kernel
theorem dX3_init_38 : decode cX3_init 38 = .ok (.if_icmp .ge 24, 3) := by decide +kernel
theorem dX3_init_41 : decode cX3_init 41 = .ok (.aload_n 0, 1) := by decide +kernel
theorem dX3_init_42 : decode cX3_init 42 = .ok (.getfield 11, 3) := by decide +kernel
theorem dX3_init_45 : decode cX3_init 45 = .ok (.iload_n 1, 1) := by decide +kernel
theorem dX3_init_46 : decode cX3_init 46 = .ok (.new 9, 3) := by decide +kernel
theorem dX3_init_49 : decode cX3_init 49 = .ok (.dup, 1) := by decide +kernel
theorem dX3_init_50 : decode cX3_init 50 = .ok (.bipush 60, 2) := by decide +kernel
theorem dX3_init_52 : decode cX3_init 52 = .ok (.invokespecial 28, 3) := by decide +kernel
theorem dX3_init_55 : decode cX3_init 55 = .ok (.aastore, 1) := by decide +kernel
theorem dX3_init_56 : decode cX3_init 56 = .ok (.iinc 1 1, 3) := by decide +kernel
theorem dX3_init_59 : decode cX3_init 59 = .ok (.goto (-23), 3) := by decide +kernel
theorem dX3_init_62 : decode cX3_init 62 = .ok (.return_, 1) := by decide +kernel
set_option maxRecDepth 20000 in
theorem ggX4_init_X7_init : GoodIn wsX4_init wsX7_init := goodIn_r _ [13, 14, 2, 3, 15, 16, 22, 23] (by decide +kernel) (by decide +kernel)
set_option maxRecDepth 20000 in
theorem gX4_init_X7_init : GoodIn wsX4_init (wsX7_init) := ggX4_init_X7_init
theorem dX4_init_0 : decode cX4_init 0 = .ok (.aload_n 0, 1) := by decide +kernel
theorem dX4_init_1 : decode cX4_init 1 = .ok (.invokespecial 3, 3) := by decide +kernel
theorem dX4_init_4 : decode cX4_init 4 = .ok (.aload_n 0, 1) := by decide +kernel
theorem dX4_init_5 : decode cX4_init 5 = .ok (.iconst 3, 1) := by decide +kernel
theorem dX4_init_6 : decode cX4_init 6 = .ok (.anewarray 9, 3) := by decide +kernel
theorem dX4_init_9 : decode cX4_init 9 = .ok (.putfield 11, 3) := by decide +kernel
theorem dX4_init_12 : decode cX4_init 12 = .ok (.aload_n 0, 1) := by decide +kernel
theorem dX4_init_13 : decode cX4_init 13 = .ok (.iconst 3, 1) := by decide +kernel
theorem dX4_init_14 : decode cX4_init 14 = .ok (.anewarray 9, 3) := by decide +kernel
theorem dX4_init_17 : decode cX4_init 17 = .ok (.putfield 17, 3) := by decide +kernel
theorem dX4_init_20 : decode cX4_init 20 = .ok (.aload_n 0, 1) := by decide +kernel
theorem dX4_init_21 : decode cX4_init 21 = .ok (.new 9, 3) := by decide +kernel
theorem dX4_init_24 : decode cX4_init 24 = .ok (.dup, 1) := by decide +kernel
theorem dX4_init_25 : decode cX4_init 25 = .ok (.bipush 120, 2) := by decide +kernel
theorem dX4_init_27 : decode cX4_init 27 = .ok (.invokespecial 20, 3) := by decide +kernel
theorem dX4_init_30 : decode cX4_init 30 = .ok (.putfield 23, 3) := by decide +kernel
theorem dX4_init_33 : decode cX4_init 33 = .ok (.aload_n 0, 1) := by decide +kernel
theorem dX4_init_34 : decode cX4_init 34 = .ok (.new 9, 3) := by decide +kernel
theorem dX4_init_37 : decode cX4_init 37 = .ok (.dup, 1) := by decide +kernel
theorem dX4_init_38 : decode cX4_init 38 = .ok (.sipush 7200, 3) := by decide +kernel
theorem dX4_init_41 : decode cX4_init 41 = .ok (.invokespecial 20, 3) := by decide +kernel
theorem dX4_init_44 : decode cX4_init 44 = .ok (.putfield 27, 3) := by decide +kernel
theorem dX4_init_47 : decode cX4_init 47 = .ok (.iconst 0, 1) := by decide +kernel
theorem dX4_init_48 : decode cX4_init 48 = .ok (.istore_n 1, 1) := by decide +kernel
theorem dX4_init_49 : decode cX4_init 49 = .ok (.iload_n 1, 1) := by decide +kernel
theorem dX4_init_50 : decode cX4_init 50 = .ok (.iconst 3, 1) := by decide +kernel
theorem dX4_init_51 : decode cX4_init 51 = .ok (.if_icmp .ge 40, 3) := by decide +kernel
theorem dX4_init_54 : decode cX4_init 54 = .ok (.aload_n 0, 1) := by decide +kernel
theorem dX4_init_55 : decode cX4_init 55 = .ok (.getfield 11, 3) := by decide +kernel
theorem dX4_init_58 : decode cX4_init 58 = .ok (.iload_n 1, 1) := by decide +kernel
theorem dX4_init_59 : decode cX4_init 59 = .ok (.new 9, 3) := by decide +kernel
theorem dX4_init_62 : decode cX4_init 62 = .ok (.dup, 1) := by decide +kernel
theorem dX4_init_63 : decode cX4_init 63 = .ok (.bipush 60, 2) := by decide +kernel
theorem dX4_init_65 : decode cX4_init 65 = .ok (.invokespecial 20, 3) := by decide +kernel
theorem dX4_init_68 : decode cX4_init 68 = .ok (.aastore, 1) := by decide +kernel
theorem dX4_init_69 : decode cX4_init 69 = .ok (.aload_n 0, 1) := by decide +kernel
theorem dX4_init_70 : decode cX4_init 70 = .ok (.getfield 17, 3) := by decide +kernel
theorem dX4_init_73 : decode cX4_init 73 = .ok (.iload_n 1, 1) := by decide +kernel
theorem dX4_init_74 : decode cX4_init 74 = .ok (.new 9, 3) := by decide +kernel
theorem dX4_init_77 : decode cX4_init 77 = .ok (.dup, 1) := by decide +kernel
theorem dX4_init_78 : decode cX4_init 78 = .ok (.sipush 3600, 3) := by decide +kernel
theorem dX4_init_81 : decode cX4_init 81 = .ok (.invokespecial 20, 3) := by decide +kernel
theorem dX4_init_84 : decode cX4_init 84 = .ok (.aastore, 1) := by decide +kernel
theorem dX4_init_85 : decode cX4_init 85 = .ok (.iinc 1 1, 3) := by decide +kernel
theorem dX4_init_88 : decode cX4_init 88 = .ok (.goto (-39), 3) := by decide +kernel
theorem dX4_init_91 : decode cX4_init 91 = .ok (.return_, 1) := by decide +kernel
theorem dX5_init_0 : decode cX5_init 0 = .ok (.aload_n 0, 1) := by decide +kernel
theorem dX5_init_1 : decode cX5_init 1 = .ok (.invokespecial 3, 3) := by decide +kernel
theorem dX5_init_4 : decode cX5_init 4 = .ok (.aload_n 0, 1) := by decide +kernel
theorem dX5_init_5 : decode cX5_init 5 = .ok (.sipush 9600, 3) := by decide +kernel
theorem dX5_init_8 : decode cX5_init 8 = .ok (.newarray .int, 2) := by decide +kernel
theorem dX5_init_10 : decode cX5_init 10 = .ok (.putfield 9, 3) := by decide +kernel
theorem dX5_init_13 : decode cX5_init 13 = .ok (.aload_n 0, 1) := by decide +kernel
theorem dX5_init_14 : decode cX5_init 14 = .ok (.sipush 1600, 3) := by decide +kernel
theorem dX5_init_17 : decode cX5_init 17 = .ok (.newarray .int, 2) := by decide +kernel
theorem dX5_init_19 : decode cX5_init 19 = .ok (.putfield 15, 3) := by decide +kernel
theorem dX5_init_22 : decode cX5_init 22 = .ok (.aload_n 0, 1) := by decide +kernel
theorem dX5_init_23 : decode cX5_init 23 = .ok (.sipush 1600, 3) := by decide +kernel
theorem dX5_init_26 : decode cX5_init 26 = .ok (.newarray .int, 2) := by decide +kernel
theorem dX5_init_28 : decode cX5_init 28 = .ok (.putfield 18, 3) := by decide +kernel
theorem dX5_init_31 : decode cX5_init 31 = .ok (.aload_n 0, 1) := by decide +kernel
theorem dX5_init_32 : decode cX5_init 32 = .ok (.sipush 1600, 3) := by decide +kernel
theorem dX5_init_35 : decode cX5_init 35 = .ok (.newarray .int, 2) := by decide +kernel
theorem dX5_init_37 : decode cX5_init 37 = .ok (.putfield 21, 3) := by decide +kernel
theorem dX5_init_40 : decode cX5_init 40 = .ok (.aload_n 0, 1) := by decide +kernel
theorem dX5_init_41 : decode cX5_init 41 = .ok (.bipush 40, 2) := by decide +kernel
theorem dX5_init_43 : decode cX5_init 43 = .ok (.newarray .int, 2) := by decide +kernel
theorem dX5_init_45 : decode cX5_init 45 = .ok (.putfield 24, 3) := by decide +kernel
theorem dX5_init_48 : decode cX5_init 48 = .ok (.aload_n 0, 1) := by decide +kernel
theorem dX5_init_49 : decode cX5_init 49 = .ok (.sipush 9600, 3) := by decide +kernel
theorem dX5_init_52 : decode cX5_init 52 = .ok (.newarray .int, 2) := by decide +kernel
theorem dX5_init_54 : decode cX5_init 54 = .ok (.putfield 27, 3) := by decide +kernel
theorem dX5_init_57 : decode cX5_init 57 = .ok (.aload_n 0, 1) := by decide +kernel
theorem dX5_init_58 : decode cX5_init 58 = .ok (.sipush 9600, 3) := by decide +kernel
theorem dX5_init_61 : decode cX5_init 61 = .ok (.newarray .int, 2) := by decide +kernel
theorem dX5_init_63 : decode cX5_init 63 = .ok (.putfield 30, 3) := by decide +kernel
theorem dX5_init_66 : decode cX5_init 66 = .ok (.return_, 1) := by decide +kernel
theorem dX6_init_0 : decode cX6_init 0 = .ok (.aload_n 0, 1) := by decide +kernel
theorem dX6_init_1 : decode cX6_init 1 = .ok (.invokespecial 3, 3) := by decide +kernel
theorem dX6_init_4 : decode cX6_init 4 = .ok (.aload_n 0, 1) := by decide +kernel
theorem dX6_init_5 : decode cX6_init 5 = .ok (.sipush 240, 3) := by decide +kernel
theorem dX6_init_8 : decode cX6_init 8 = .ok (.newarray .long, 2) := by decide +kernel
theorem dX6_init_10 : decode cX6_init 10 = .ok (.putfield 9, 3) := by decide +kernel
theorem dX6_init_13 : decode cX6_init 13 = .ok (.aload_n 0, 1) := by decide +kernel
theorem dX6_init_14 : decode cX6_init 14 = .ok (.sipush 240, 3) := by decide +kernel
theorem dX6_init_17 : decode cX6_init 17 = .ok (.newarray .long, 2) := by decide +kernel
theorem dX6_init_19 : decode cX6_init 19 = .ok (.putfield 15, 3) := by decide +kernel
theorem dX6_init_22 : decode cX6_init 22 = .ok (.return_, 1) := by decide +kernel
theorem dX7_init_0 : decode cX7_init 0 = .ok (.aload_n 0, 1) := by decide +kernel
theorem dX7_init_1 : decode cX7_init 1 = .ok (.invokespecial 3, 3) := by decide +kernel
theorem dX7_init_4 : decode cX7_init 4 = .ok (.aload_n 0, 1) := by decide +kernel
theorem dX7_init_5 : decode cX7_init 5 = .ok (.iload_n 1, 1) := by decide +kernel
theorem dX7_init_6 : decode cX7_init 6 = .ok (.ifCond .le 7, 3) := by decide +kernel
theorem dX7_init_9 : decode cX7_init 9 = .ok (.iload_n 1, 1) := by decide +kernel
theorem dX7_init_10 : decode cX7_init 10 = .ok (.goto 4, 3) := by decide +kernel
theorem dX7_init_13 : decode cX7_init 13 = .ok (.iconst 0, 1) := by decide +kernel
theorem dX7_init_14 : decode cX7_init 14 = .ok (.newarray .byte, 2) := by decide +kernel
theorem dX7_init_16 : decode cX7_init 16 = .ok (.putfield 9, 3) := by decide +kernel
theorem dX7_init_19 : decode cX7_init 19 = .ok (.return_, 1) := by decide +kernel
theorem dX7_clear_0 : decode cX7_clear 0 = .ok (.aload_n 0, 1) := by decide +kernel
theorem dX7_clear_1 : decode cX7_clear 1 = .ok (.iconst 0, 1) := by decide +kernel
theorem dX7_clear_2 : decode cX7_clear 2 = .ok (.putfield 15, 3) := by decide +kernel
theorem dX7_clear_5 : decode cX7_clear 5 = .ok (.return_, 1) := by decide +kernel
theorem dX7_add_0 : decode cX7_add 0 = .ok (.aload_n 0, 1) := by decide +kernel
theorem dX7_add_1 : decode cX7_add 1 = .ok (.getfield 15, 3) := by decide +kernel
theorem dX7_add_4 : decode cX7_add 4 = .ok (.ifCond .le 33, 3) := by decide +kernel
theorem dX7_add_7 : decode cX7_add 7 = .ok (.aload_n 0, 1) := by decide +kernel
theorem dX7_add_8 : decode cX7_add 8 = .ok (.getfield 9, 3) := by decide +kernel
theorem dX7_add_11 : decode cX7_add 11 = .ok (.aload_n 0, 1) := by decide +kernel
theorem dX7_add_12 : decode cX7_add 12 = .ok (.getfield 15, 3) := by decide +kernel
theorem dX7_add_15 : decode cX7_add 15 = .ok (.iconst 1, 1) := by decide +kernel
theorem dX7_add_16 : decode cX7_add 16 = .ok (.isub, 1) := by decide +kernel
theorem dX7_add_17 : decode cX7_add 17 = .ok (.baload, 1) := by decide +kernel
theorem dX7_add_18 : decode cX7_add 18 = .ok (.iload_n 1, 1) := by decide +kernel
theorem dX7_add_19 : decode cX7_add 19 = .ok (.iconst 1, 1) := by decide +kernel
theorem dX7_add_20 : decode cX7_add 20 = .ok (.ixor, 1) := by decide +kernel
theorem dX7_add_21 : decode cX7_add 21 = .ok (.if_icmp .ne 16, 3) := by decide +kernel
theorem dX7_add_24 : decode cX7_add 24 = .ok (.aload_n 0, 1) := by decide +kernel
theorem dX7_add_25 : decode cX7_add 25 = .ok (.dup, 1) := by decide +kernel
theorem dX7_add_26 : decode cX7_add 26 = .ok (.getfield 15, 3) := by decide +kernel
theorem dX7_add_29 : decode cX7_add 29 = .ok (.iconst 1, 1) := by decide +kernel
theorem dX7_add_30 : decode cX7_add 30 = .ok (.isub, 1) := by decide +kernel
theorem dX7_add_31 : decode cX7_add 31 = .ok (.putfield 15, 3) := by decide +kernel
theorem dX7_add_34 : decode cX7_add 34 = .ok (.goto 36, 3) := by decide +kernel
theorem dX7_add_37 : decode cX7_add 37 = .ok (.aload_n 0, 1) := by decide +kernel
theorem dX7_add_38 : decode cX7_add 38 = .ok (.getfield 15, 3) := by decide +kernel
theorem dX7_add_41 : decode cX7_add 41 = .ok (.aload_n 0, 1) := by decide +kernel
theorem dX7_add_42 : decode cX7_add 42 = .ok (.getfield 9, 3) := by decide +kernel
theorem dX7_add_45 : decode cX7_add 45 = .ok (.arraylength, 1) := by decide +kernel
theorem dX7_add_46 : decode cX7_add 46 = .ok (.if_icmp .ge 24, 3) := by decide +kernel
theorem dX7_add_49 : decode cX7_add 49 = .ok (.aload_n 0, 1) := by decide +kernel
theorem dX7_add_50 : decode cX7_add 50 = .ok (.getfield 9, 3) := by decide +kernel
theorem dX7_add_53 : decode cX7_add 53 = .ok (.aload_n 0, 1) := by decide +kernel
theorem dX7_add_54 : decode cX7_add 54 = .ok (.getfield 15, 3) := by decide +kernel
theorem dX7_add_57 : decode cX7_add 57 = .ok (.iload_n 1, 1) := by decide +kernel
theorem dX7_add_58 : decode cX7_add 58 = .ok (.i2b, 1) := by decide +kernel
theorem dX7_add_59 : decode cX7_add 59 = .ok (.bastore, 1) := by decide +kernel
theorem dX7_add_60 : decode cX7_add 60 = .ok (.aload_n 0, 1) := by decide +kernel
theorem dX7_add_61 : decode cX7_add 61 = .ok (.dup, 1) := by decide +kernel
theorem dX7_add_62 : decode cX7_add 62 = .ok (.getfield 15, 3) := by decide +kernel
theorem dX7_add_65 : decode cX7_add 65 = .ok (.iconst 1, 1) := by decide +kernel
theorem dX7_add_66 : decode cX7_add 66 = .ok (.iadd, 1) := by decide +kernel
theorem dX7_add_67 : decode cX7_add 67 = .ok (.putfield 15, 3) := by decide +kernel
theorem dX7_add_70 : decode cX7_add 70 = .ok (.return_, 1) := by decide +kernel
set_option maxRecDepth 20000 in
theorem ggX7_addPart_X7_add : GoodIn wsX7_addPart wsX7_add := goodIn_ca (goodIn_r _ [7, 1, 2, 8, 9] (by decide +kernel) (by decide +kernel)) (goodIn_sub (fun _ h => List.mem_cons_of_mem _ (List.mem_append_right _ h)) (by decide +kernel))
set_option maxRecDepth 20000 in
theorem gX7_addPart_X7_add : GoodIn wsX7_addPart (wsV RX7 19 RX7 yX7_add wsX7_add) := goodIn_app (goodIn_of _ (by decide +kernel)) ggX7_addPart_X7_add
theorem dX7_addPart_0 : decode cX7_addPart 0 = .ok (.iload_n 2, 1) := by decide +kernel
theorem dX7_addPart_1 : decode cX7_addPart 1 = .ok (.ifCond .le 7, 3) := by decide +kernel
theorem dX7_addPart_4 : decode cX7_addPart 4 = .ok (.iload_n 2, 1) := by decide +kernel
theorem dX7_addPart_5 : decode cX7_addPart 5 = .ok (.goto 4, 3) := by decide +kernel
theorem dX7_addPart_8 : decode cX7_addPart 8 = .ok (.iconst 0, 1) := by decide +kernel
theorem dX7_addPart_9 : decode cX7_addPart 9 = .ok (.istore 4, 2) := by decide +kernel
theorem dX7_addPart_11 : decode cX7_addPart 11 = .ok (.iload 4, 2) := by decide +kernel
theorem dX7_addPart_13 : decode cX7_addPart 13 = .ok (.istore 5, 2) := by decide +kernel
theorem dX7_addPart_15 : decode cX7_addPart 15 = .ok (.iload 5, 2) := by decide +kernel
theorem dX7_addPart_17 : decode cX7_addPart 17 = .ok (.iload_n 3, 1) := by decide +kernel
theorem dX7_addPart_18 : decode cX7_addPart 18 = .ok (.if_icmp .ge 29, 3) := by decide +kernel
theorem dX7_addPart_21 : decode cX7_addPart 21 = .ok (.iload 5, 2) := by decide +kernel
theorem dX7_addPart_23 : decode cX7_addPart 23 = .ok (.aload_n 1, 1) := by decide +kernel
theorem dX7_addPart_24 : decode cX7_addPart 24 = .ok (.getfield 15, 3) := by decide +kernel
theorem dX7_addPart_27 : decode cX7_addPart 27 = .ok (.if_icmp .ge 20, 3) := by decide +kernel
theorem dX7_addPart_30 : decode cX7_addPart 30 = .ok (.aload_n 0, 1) := by decide +kernel
theorem dX7_addPart_31 : decode cX7_addPart 31 = .ok (.aload_n 1, 1) := by decide +kernel
theorem dX7_addPart_32 : decode cX7_addPart 32 = .ok (.getfield 9, 3) := by decide +kernel
theorem dX7_addPart_35 : decode cX7_addPart 35 = .ok (.iload 5, 2) := by decide +kernel
theorem dX7_addPart_37 : decode cX7_addPart 37 = .ok (.baload, 1) := by decide +kernel
theorem dX7_addPart_38 : decode cX7_addPart 38 = .ok (.invokevirtual 19, 3) := by decide +kernel
theorem dX7_addPart_41 : decode cX7_addPart 41 = .ok (.iinc 5 1, 3) := by decide +kernel
theorem dX7_addPart_44 : decode cX7_addPart 44 = .ok (.goto (-29), 3) := by decide +kernel
theorem dX7_addPart_47 : decode cX7_addPart 47 = .ok (.return_, 1) := by decide +kernel
set_option maxRecDepth 20000 in
theorem ggX7_addPartInverse_X7_add : GoodIn wsX7_addPartInverse wsX7_add := goodIn_ca (goodIn_r _ [7, 1, 2, 8, 9] (by decide +kernel) (by decide +kernel)) (goodIn_sub (fun _ h => List.mem_cons_of_mem _ (List.mem_append_right _ h)) (by decide +kernel))
set_option maxRecDepth 20000 in
theorem gX7_addPartInverse_X7_add : GoodIn wsX7_addPartInverse (wsV RX7 19 RX7 yX7_add wsX7_add) := goodIn_app (goodIn_of _ (by decide +kernel)) ggX7_addPartInverse_X7_add
theorem dX7_addPartInverse_0 : decode cX7_addPartInverse 0 = .ok (.iload_n 3, 1) := by decide +kernel
theorem dX7_addPartInverse_1 : decode cX7_addPartInverse 1 = .ok (.aload_n 1, 1) := by decide +kernel
theorem dX7_addPartInverse_2 : decode cX7_addPartInverse 2 = .ok (.getfield 15, 3) := by decide +kernel
theorem dX7_addPartInverse_5 : decode cX7_addPartInverse 5 = .ok (.if_icmp .ge 7, 3) := by decide +kernel
theorem dX7_addPartInverse_8 : decode cX7_addPartInverse 8 = .ok (.iload_n 3, 1) := by decide +kernel
theorem dX7_addPartInverse_9 : decode cX7_addPartInverse 9 = .ok (.goto 7, 3) := by decide +kernel
theorem dX7_addPartInverse_12 : decode cX7_addPartInverse 12 = .ok (.aload_n 1, 1) := by decide +kernel
theorem dX7_addPartInverse_13 : decode cX7_addPartInverse 13 = .ok (.getfield 15, 3) := by decide +kernel
theorem dX7_addPartInverse_16 : decode cX7_addPartInverse 16 = .ok (.iconst 1, 1) := by decide +kernel
theorem dX7_addPartInverse_17 : decode cX7_addPartInverse 17 = .ok (.isub, 1) := by decide +kernel
theorem dX7_addPartInverse_18 : decode cX7_addPartInverse 18 = .ok (.istore 4, 2) := by decide +kernel
theorem dX7_addPartInverse_20 : decode cX7_addPartInverse 20 = .ok (.iload 4, 2) := by decide +kernel
theorem dX7_addPartInverse_22 : decode cX7_addPartInverse 22 = .ok (.istore 5, 2) := by decide +kernel
theorem dX7_addPartInverse_24 : decode cX7_addPartInverse 24 = .ok (.iload 5, 2) := by decide +kernel
theorem dX7_addPartInverse_26 : decode cX7_addPartInverse 26 = .ok (.iload_n 2, 1) := by decide +kernel
theorem dX7_addPartInverse_27 : decode cX7_addPartInverse 27 = .ok (.if_icmp .lt 27, 3) := by decide +kernel
theorem dX7_addPartInverse_30 : decode cX7_addPartInverse 30 = .ok (.iload 5, 2) := by decide +kernel
theorem dX7_addPartInverse_32 : decode cX7_addPartInverse 32 = .ok (.ifCond .lt 22, 3) := by decide +kernel
theorem dX7_addPartInverse_35 : decode cX7_addPartInverse 35 = .ok (.aload_n 0, 1) := by decide +kernel
theorem dX7_addPartInverse_36 : decode cX7_addPartInverse 36 = .ok (.aload_n 1, 1) := by decide +kernel
theorem dX7_addPartInverse_37 : decode cX7_addPartInverse 37 = .ok (.getfield 9, 3) := by decide +kernel
theorem dX7_addPartInverse_40 : decode cX7_addPartInverse 40 = .ok (.iload 5, 2) := by decide +kernel
theorem dX7_addPartInverse_42 : decode cX7_addPartInverse 42 = .ok (.baload, 1) := by decide +kernel
theorem dX7_addPartInverse_43 : decode cX7_addPartInverse 43 = .ok (.iconst 1, 1) := by decide +kernel
theorem dX7_addPartInverse_44 : decode cX7_addPartInverse 44 = .ok (.ixor, 1) := by decide +kernel
theorem dX7_addPartInverse_45 : decode cX7_addPartInverse 45 = .ok (.invokevirtual 19, 3) := by decide +kernel
theorem dX7_addPartInverse_48 : decode cX7_addPartInverse 48 = .ok (.iinc 5 (-1), 3) := by decide +kernel
theorem dX7_addPartInverse_51 : decode cX7_addPartInverse 51 = .ok (.goto (-27), 3) := by decide +kernel
theorem dX7_addPartInverse_54 : decode cX7_addPartInverse 54 = .ok (.return_, 1) := by decide +kernel
set_option maxRecDepth 20000 in
theorem ggX7_addRow_X7_add : GoodIn wsX7_addRow wsX7_add := goodIn_ca (goodIn_r _ [7, 1, 2, 8, 9] (by decide +kernel) (by decide +kernel)) (goodIn_sub (fun _ h => List.mem_cons_of_mem _ (List.mem_append_right _ h)) (by decide +kernel))
set_option maxRecDepth 20000 in
theorem gX7_addRow_X7_add : GoodIn wsX7_addRow (wsV RX7 19 RX7 yX7_add wsX7_add) := goodIn_app (goodIn_of _ (by decide +kernel)) ggX7_addRow_X7_add
theorem dX7_addRow_0 : decode cX7_addRow 0 = .ok (.aload_n 1, 1) := by decide +kernel
theorem dX7_addRow_1 : decode cX7_addRow 1 = .ok (.getfield 15, 3) := by decide +kernel
theorem dX7_addRow_4 : decode cX7_addRow 4 = .ok (.istore_n 2, 1) := by decide +kernel
theorem dX7_addRow_5 : decode cX7_addRow 5 = .ok (.iconst 0, 1) := by decide +kernel
theorem dX7_addRow_6 : decode cX7_addRow 6 = .ok (.istore_n 3, 1) := by decide +kernel
theorem dX7_addRow_7 : decode cX7_addRow 7 = .ok (.iload_n 3, 1) := by decide +kernel
theorem dX7_addRow_8 : decode cX7_addRow 8 = .ok (.iload_n 2, 1) := by decide +kernel
theorem dX7_addRow_9 : decode cX7_addRow 9 = .ok (.if_icmp .ge 19, 3) := by decide +kernel
theorem dX7_addRow_12 : decode cX7_addRow 12 = .ok (.aload_n 0, 1) := by decide +kernel
theorem dX7_addRow_13 : decode cX7_addRow 13 = .ok (.aload_n 1, 1) := by decide +kernel
theorem dX7_addRow_14 : decode cX7_addRow 14 = .ok (.getfield 9, 3) := by decide +kernel
theorem dX7_addRow_17 : decode cX7_addRow 17 = .ok (.iload_n 3, 1) := by decide +kernel
theorem dX7_addRow_18 : decode cX7_addRow 18 = .ok (.baload, 1) := by decide +kernel
theorem dX7_addRow_19 : decode cX7_addRow 19 = .ok (.invokevirtual 19, 3) := by decide +kernel
theorem dX7_addRow_22 : decode cX7_addRow 22 = .ok (.iinc 3 1, 3) := by decide +kernel
theorem dX7_addRow_25 : decode cX7_addRow 25 = .ok (.goto (-18), 3) := by decide +kernel
theorem dX7_addRow_28 : decode cX7_addRow 28 = .ok (.return_, 1) := by decide +kernel
set_option maxRecDepth 20000 in
theorem ggX7_addInverse_X7_add : GoodIn wsX7_addInverse wsX7_add := goodIn_ca (goodIn_r _ [7, 1, 2, 8, 9] (by decide +kernel) (by decide +kernel)) (goodIn_sub (fun _ h => List.mem_cons_of_mem _ (List.mem_append_right _ h)) (by decide +kernel))
set_option maxRecDepth 20000 in
theorem gX7_addInverse_X7_add : GoodIn wsX7_addInverse (wsV RX7 19 RX7 yX7_add wsX7_add) := goodIn_app (goodIn_of _ (by decide +kernel)) ggX7_addInverse_X7_add
theorem dX7_addInverse_0 : decode cX7_addInverse 0 = .ok (.aload_n 1, 1) := by decide +kernel
theorem dX7_addInverse_1 : decode cX7_addInverse 1 = .ok (.getfield 15, 3) := by decide +kernel
theorem dX7_addInverse_4 : decode cX7_addInverse 4 = .ok (.iconst 1, 1) := by decide +kernel
theorem dX7_addInverse_5 : decode cX7_addInverse 5 = .ok (.isub, 1) := by decide +kernel
theorem dX7_addInverse_6 : decode cX7_addInverse 6 = .ok (.istore_n 2, 1) := by decide +kernel
theorem dX7_addInverse_7 : decode cX7_addInverse 7 = .ok (.iload_n 2, 1) := by decide +kernel
theorem dX7_addInverse_8 : decode cX7_addInverse 8 = .ok (.ifCond .lt 21, 3) := by decide +kernel
theorem dX7_addInverse_11 : decode cX7_addInverse 11 = .ok (.aload_n 0, 1) := by decide +kernel
theorem dX7_addInverse_12 : decode cX7_addInverse 12 = .ok (.aload_n 1, 1) := by decide +kernel
theorem dX7_addInverse_13 : decode cX7_addInverse 13 = .ok (.getfield 9, 3) := by decide +kernel
theorem dX7_addInverse_16 : decode cX7_addInverse 16 = .ok (.iload_n 2, 1) := by decide +kernel
theorem dX7_addInverse_17 : decode cX7_addInverse 17 = .ok (.baload, 1) := by decide +kernel
theorem dX7_addInverse_18 : decode cX7_addInverse 18 = .ok (.iconst 1, 1) := by decide +kernel
theorem dX7_addInverse_19 : decode cX7_addInverse 19 = .ok (.ixor, 1) := by decide +kernel
theorem dX7_addInverse_20 : decode cX7_addInverse 20 = .ok (.invokevirtual 19, 3) := by decide +kernel
theorem dX7_addInverse_23 : decode cX7_addInverse 23 = .ok (.iinc 2 (-1), 3) := by decide +kernel
theorem dX7_addInverse_26 : decode cX7_addInverse 26 = .ok (.goto (-19), 3) := by decide +kernel
theorem dX7_addInverse_29 : decode cX7_addInverse 29 = .ok (.return_, 1) := by decide +kernel
theorem dX7_set_0 : decode cX7_set 0 = .ok (.aload_n 0, 1) := by decide +kernel
theorem dX7_set_1 : decode cX7_set 1 = .ok (.aload_n 1, 1) := by decide +kernel
theorem dX7_set_2 : decode cX7_set 2 = .ok (.getfield 15, 3) := by decide +kernel
theorem dX7_set_5 : decode cX7_set 5 = .ok (.aload_n 0, 1) := by decide +kernel
theorem dX7_set_6 : decode cX7_set 6 = .ok (.getfield 9, 3) := by decide +kernel
theorem dX7_set_9 : decode cX7_set 9 = .ok (.arraylength, 1) := by decide +kernel
theorem dX7_set_10 : decode cX7_set 10 = .ok (.if_icmp .ge 10, 3) := by decide +kernel
theorem dX7_set_13 : decode cX7_set 13 = .ok (.aload_n 1, 1) := by decide +kernel
theorem dX7_set_14 : decode cX7_set 14 = .ok (.getfield 15, 3) := by decide +kernel
theorem dX7_set_17 : decode cX7_set 17 = .ok (.goto 8, 3) := by decide +kernel
theorem dX7_set_20 : decode cX7_set 20 = .ok (.aload_n 0, 1) := by decide +kernel
theorem dX7_set_21 : decode cX7_set 21 = .ok (.getfield 9, 3) := by decide +kernel
theorem dX7_set_24 : decode cX7_set 24 = .ok (.arraylength, 1) := by decide +kernel
theorem dX7_set_25 : decode cX7_set 25 = .ok (.putfield 15, 3) := by decide +kernel
theorem dX7_set_28 : decode cX7_set 28 = .ok (.iconst 0, 1) := by decide +kernel
theorem dX7_set_29 : decode cX7_set 29 = .ok (.istore_n 2, 1) := by decide +kernel
theorem dX7_set_30 : decode cX7_set 30 = .ok (.iload_n 2, 1) := by decide +kernel
theorem dX7_set_31 : decode cX7_set 31 = .ok (.aload_n 0, 1) := by decide +kernel
theorem dX7_set_32 : decode cX7_set 32 = .ok (.getfield 15, 3) := by decide +kernel
theorem dX7_set_35 : decode cX7_set 35 = .ok (.if_icmp .ge 21, 3) := by decide +kernel
theorem dX7_set_38 : decode cX7_set 38 = .ok (.aload_n 0, 1) := by decide +kernel
theorem dX7_set_39 : decode cX7_set 39 = .ok (.getfield 9, 3) := by decide +kernel
theorem dX7_set_42 : decode cX7_set 42 = .ok (.iload_n 2, 1) := by decide +kernel
theorem dX7_set_43 : decode cX7_set 43 = .ok (.aload_n 1, 1) := by decide +kernel
theorem dX7_set_44 : decode cX7_set 44 = .ok (.getfield 9, 3) := by decide +kernel
theorem dX7_set_47 : decode cX7_set 47 = .ok (.iload_n 2, 1) := by decide +kernel
theorem dX7_set_48 : decode cX7_set 48 = .ok (.baload, 1) := by decide +kernel
theorem dX7_set_49 : decode cX7_set 49 = .ok (.bastore, 1) := by decide +kernel
theorem dX7_set_50 : decode cX7_set 50 = .ok (.iinc 2 1, 3) := by decide +kernel
theorem dX7_set_53 : decode cX7_set 53 = .ok (.goto (-23), 3) := by decide +kernel
theorem dX7_set_56 : decode cX7_set 56 = .ok (.return_, 1) := by decide +kernel
theorem dX7_orderTo_0 : decode cX7_orderTo 0 = .ok (.aload_n 0, 1) := by decide +kernel
theorem dX7_orderTo_1 : decode cX7_orderTo 1 = .ok (.getfield 15, 3) := by decide +kernel
theorem dX7_orderTo_4 : decode cX7_orderTo 4 = .ok (.aload_n 1, 1) := by decide +kernel
theorem dX7_orderTo_5 : decode cX7_orderTo 5 = .ok (.getfield 15, 3) := by decide +kernel
theorem dX7_orderTo_8 : decode cX7_orderTo 8 = .ok (.if_icmp .eq 20, 3) := by decide +kernel
theorem dX7_orderTo_11 : decode cX7_orderTo 11 = .ok (.aload_n 0, 1) := by decide +kernel
theorem dX7_orderTo_12 : decode cX7_orderTo 12 = .ok (.getfield 15, 3) := by decide +kernel
theorem dX7_orderTo_15 : decode cX7_orderTo 15 = .ok (.aload_n 1, 1) := by decide +kernel
theorem dX7_orderTo_16 : decode cX7_orderTo 16 = .ok (.getfield 15, 3) := by decide +kernel
theorem dX7_orderTo_19 : decode cX7_orderTo 19 = .ok (.if_icmp .ge 7, 3) := by decide +kernel
theorem dX7_orderTo_22 : decode cX7_orderTo 22 = .ok (.iconst (-1), 1) := by decide +kernel
theorem dX7_orderTo_23 : decode cX7_orderTo 23 = .ok (.goto 4, 3) := by decide +kernel
theorem dX7_orderTo_26 : decode cX7_orderTo 26 = .ok (.iconst 1, 1) := by decide +kernel
theorem dX7_orderTo_27 : decode cX7_orderTo 27 = .ok (.ireturn, 1) := by decide +kernel
theorem dX7_orderTo_28 : decode cX7_orderTo 28 = .ok (.iconst 0, 1) := by decide +kernel
theorem dX7_orderTo_29 : decode cX7_orderTo 29 = .ok (.istore_n 2, 1) := by decide +kernel
theorem dX7_orderTo_30 : decode cX7_orderTo 30 = .ok (.iload_n 2, 1) := by decide +kernel
theorem dX7_orderTo_31 : decode cX7_orderTo 31 = .ok (.aload_n 0, 1) := by decide +kernel
theorem dX7_orderTo_32 : decode cX7_orderTo 32 = .ok (.getfield 15, 3) := by decide +kernel
theorem dX7_orderTo_35 : decode cX7_orderTo 35 = .ok (.if_icmp .ge 45, 3) := by decide +kernel
theorem dX7_orderTo_38 : decode cX7_orderTo 38 = .ok (.aload_n 0, 1) := by decide +kernel
theorem dX7_orderTo_39 : decode cX7_orderTo 39 = .ok (.getfield 9, 3) := by decide +kernel
theorem dX7_orderTo_42 : decode cX7_orderTo 42 = .ok (.iload_n 2, 1) := by decide +kernel
theorem dX7_orderTo_43 : decode cX7_orderTo 43 = .ok (.baload, 1) := by decide +kernel
theorem dX7_orderTo_44 : decode cX7_orderTo 44 = .ok (.aload_n 1, 1) := by decide +kernel
theorem dX7_orderTo_45 : decode cX7_orderTo 45 = .ok (.getfield 9, 3) := by decide +kernel
theorem dX7_orderTo_48 : decode cX7_orderTo 48 = .ok (.iload_n 2, 1) := by decide +kernel
theorem dX7_orderTo_49 : decode cX7_orderTo 49 = .ok (.baload, 1) := by decide +kernel
theorem dX7_orderTo_50 : decode cX7_orderTo 50 = .ok (.if_icmp .eq 24, 3) := by decide +kernel
theorem dX7_orderTo_53 : decode cX7_orderTo 53 = .ok (.aload_n 0, 1) := by decide +kernel
theorem dX7_orderTo_54 : decode cX7_orderTo 54 = .ok (.getfield 9, 3) := by decide +kernel
theorem dX7_orderTo_57 : decode cX7_orderTo 57 = .ok (.iload_n 2, 1) := by decide +kernel
theorem dX7_orderTo_58 : decode cX7_orderTo 58 = .ok (.baload, 1) := by decide +kernel
theorem dX7_orderTo_59 : decode cX7_orderTo 59 = .ok (.aload_n 1, 1) := by decide +kernel
theorem dX7_orderTo_60 : decode cX7_orderTo 60 = .ok (.getfield 9, 3) := by decide +kernel
theorem dX7_orderTo_63 : decode cX7_orderTo 63 = .ok (.iload_n 2, 1) := by decide +kernel
theorem dX7_orderTo_64 : decode cX7_orderTo 64 = .ok (.baload, 1) := by decide +kernel
theorem dX7_orderTo_65 : decode cX7_orderTo 65 = .ok (.if_icmp .ge 7, 3) := by decide +kernel
theorem dX7_orderTo_68 : decode cX7_orderTo 68 = .ok (.iconst (-1), 1) := by decide +kernel
theorem dX7_orderTo_69 : decode cX7_orderTo 69 = .ok (.goto 4, 3) := by decide +kernel
theorem dX7_orderTo_72 : decode cX7_orderTo 72 = .ok (.iconst 1, 1) := by decide +kernel
theorem dX7_orderTo_73 : decode cX7_orderTo 73 = .ok (.ireturn, 1) := by decide +kernel
theorem dX7_orderTo_74 : decode cX7_orderTo 74 = .ok (.iinc 2 1, 3) := by decide +kernel
theorem dX7_orderTo_77 : decode cX7_orderTo 77 = .ok (.goto (-47), 3) := by decide +kernel
theorem dX7_orderTo_80 : decode cX7_orderTo 80 = .ok (.iconst 0, 1) := by decide +kernel
theorem dX7_orderTo_81 : decode cX7_orderTo 81 = .ok (.ireturn, 1) := by decide +kernel
theorem dX7_sumOf_0 : decode cX7_sumOf 0 = .ok (.iconst 0, 1) := by decide +kernel
theorem dX7_sumOf_1 : decode cX7_sumOf 1 = .ok (.istore_n 2, 1) := by decide +kernel
theorem dX7_sumOf_2 : decode cX7_sumOf 2 = .ok (.iconst 0, 1) := by decide +kernel
theorem dX7_sumOf_3 : decode cX7_sumOf 3 = .ok (.istore_n 3, 1) := by decide +kernel
theorem dX7_sumOf_4 : decode cX7_sumOf 4 = .ok (.iload_n 3, 1) := by decide +kernel
theorem dX7_sumOf_5 : decode cX7_sumOf 5 = .ok (.aload_n 0, 1) := by decide +kernel
theorem dX7_sumOf_6 : decode cX7_sumOf 6 = .ok (.getfield 15, 3) := by decide +kernel
theorem dX7_sumOf_9 : decode cX7_sumOf 9 = .ok (.if_icmp .ge 40, 3) := by decide +kernel
theorem dX7_sumOf_12 : decode cX7_sumOf 12 = .ok (.aload_n 0, 1) := by decide +kernel
theorem dX7_sumOf_13 : decode cX7_sumOf 13 = .ok (.getfield 9, 3) := by decide +kernel
theorem dX7_sumOf_16 : decode cX7_sumOf 16 = .ok (.iload_n 3, 1) := by decide +kernel
theorem dX7_sumOf_17 : decode cX7_sumOf 17 = .ok (.baload, 1) := by decide +kernel
theorem dX7_sumOf_18 : decode cX7_sumOf 18 = .ok (.iload_n 1, 1) := by decide +kernel
theorem dX7_sumOf_19 : decode cX7_sumOf 19 = .ok (.if_icmp .ne 9, 3) := by decide +kernel
theorem dX7_sumOf_22 : decode cX7_sumOf 22 = .ok (.iinc 2 1, 3) := by decide +kernel
theorem dX7_sumOf_25 : decode cX7_sumOf 25 = .ok (.goto 18, 3) := by decide +kernel
theorem dX7_sumOf_28 : decode cX7_sumOf 28 = .ok (.aload_n 0, 1) := by decide +kernel
theorem dX7_sumOf_29 : decode cX7_sumOf 29 = .ok (.getfield 9, 3) := by decide +kernel
theorem dX7_sumOf_32 : decode cX7_sumOf 32 = .ok (.iload_n 3, 1) := by decide +kernel
theorem dX7_sumOf_33 : decode cX7_sumOf 33 = .ok (.baload, 1) := by decide +kernel
theorem dX7_sumOf_34 : decode cX7_sumOf 34 = .ok (.iload_n 1, 1) := by decide +kernel
theorem dX7_sumOf_35 : decode cX7_sumOf 35 = .ok (.iconst 1, 1) := by decide +kernel
theorem dX7_sumOf_36 : decode cX7_sumOf 36 = .ok (.ixor, 1) := by decide +kernel
theorem dX7_sumOf_37 : decode cX7_sumOf 37 = .ok (.if_icmp .ne 6, 3) := by decide +kernel
theorem dX7_sumOf_40 : decode cX7_sumOf 40 = .ok (.iinc 2 (-1), 3) := by decide +kernel
theorem dX7_sumOf_43 : decode cX7_sumOf 43 = .ok (.iinc 3 1, 3) := by decide +kernel
theorem dX7_sumOf_46 : decode cX7_sumOf 46 = .ok (.goto (-42), 3) := by decide +kernel
theorem dX7_sumOf_49 : decode cX7_sumOf 49 = .ok (.iload_n 2, 1) := by decide +kernel
theorem dX7_sumOf_50 : decode cX7_sumOf 50 = .ok (.ireturn, 1) := by decide +kernel
theorem dX7_isCancelled_0 : decode cX7_isCancelled 0 = .ok (.iconst 1, 1) := by decide +kernel
theorem dX7_isCancelled_1 : decode cX7_isCancelled 1 = .ok (.istore_n 1, 1) := by decide +kernel
theorem dX7_isCancelled_2 : decode cX7_isCancelled 2 = .ok (.iload_n 1, 1) := by decide +kernel
theorem dX7_isCancelled_3 : decode cX7_isCancelled 3 = .ok (.aload_n 0, 1) := by decide +kernel
theorem dX7_isCancelled_4 : decode cX7_isCancelled 4 = .ok (.getfield 15, 3) := by decide +kernel
theorem dX7_isCancelled_7 : decode cX7_isCancelled 7 = .ok (.if_icmp .ge 30, 3) := by decide +kernel
theorem dX7_isCancelled_10 : decode cX7_isCancelled 10 = .ok (.aload_n 0, 1) := by decide +kernel
theorem dX7_isCancelled_11 : decode cX7_isCancelled 11 = .ok (.getfield 9, 3) := by decide +kernel
theorem dX7_isCancelled_14 : decode cX7_isCancelled 14 = .ok (.iload_n 1, 1) := by decide +kernel
theorem dX7_isCancelled_15 : decode cX7_isCancelled 15 = .ok (.iconst 1, 1) := by decide +kernel
theorem dX7_isCancelled_16 : decode cX7_isCancelled 16 = .ok (.isub, 1) := by decide +kernel
theorem dX7_isCancelled_17 : decode cX7_isCancelled 17 = .ok (.baload, 1) := by decide +kernel
theorem dX7_isCancelled_18 : decode cX7_isCancelled 18 = .ok (.aload_n 0, 1) := by decide +kernel
theorem dX7_isCancelled_19 : decode cX7_isCancelled 19 = .ok (.getfield 9, 3) := by decide +kernel
theorem dX7_isCancelled_22 : decode cX7_isCancelled 22 = .ok (.iload_n 1, 1) := by decide +kernel
theorem dX7_isCancelled_23 : decode cX7_isCancelled 23 = .ok (.baload, 1) := by decide +kernel
theorem dX7_isCancelled_24 : decode cX7_isCancelled 24 = .ok (.iconst 1, 1) := by decide +kernel
theorem dX7_isCancelled_25 : decode cX7_isCancelled 25 = .ok (.ixor, 1) := by decide +kernel
theorem dX7_isCancelled_26 : decode cX7_isCancelled 26 = .ok (.if_icmp .ne 5, 3) := by decide +kernel
theorem dX7_isCancelled_29 : decode cX7_isCancelled 29 = .ok (.iconst 0, 1) := by decide +kernel
theorem dX7_isCancelled_30 : decode cX7_isCancelled 30 = .ok (.ireturn, 1) := by decide +kernel
theorem dX7_isCancelled_31 : decode cX7_isCancelled 31 = .ok (.iinc 1 1, 3) := by decide +kernel
theorem dX7_isCancelled_34 : decode cX7_isCancelled 34 = .ok (.goto (-32), 3) := by decide +kernel
theorem dX7_isCancelled_37 : decode cX7_isCancelled 37 = .ok (.iconst 1, 1) := by decide +kernel
theorem dX7_isCancelled_38 : decode cX7_isCancelled 38 = .ok (.ireturn, 1) := by decide +kernel
theorem dX7_coreStart_0 : decode cX7_coreStart 0 = .ok (.iconst 0, 1) := by decide +kernel
theorem dX7_coreStart_1 : decode cX7_coreStart 1 = .ok (.istore_n 1, 1) := by decide +kernel
theorem dX7_coreStart_2 : decode cX7_coreStart 2 = .ok (.iload_n 1, 1) := by decide +kernel
theorem dX7_coreStart_3 : decode cX7_coreStart 3 = .ok (.aload_n 0, 1) := by decide +kernel
theorem dX7_coreStart_4 : decode cX7_coreStart 4 = .ok (.getfield 15, 3) := by decide +kernel
theorem dX7_coreStart_7 : decode cX7_coreStart 7 = .ok (.iconst 1, 1) := by decide +kernel
theorem dX7_coreStart_8 : decode cX7_coreStart 8 = .ok (.isub, 1) := by decide +kernel
theorem dX7_coreStart_9 : decode cX7_coreStart 9 = .ok (.iload_n 1, 1) := by decide +kernel
theorem dX7_coreStart_10 : decode cX7_coreStart 10 = .ok (.isub, 1) := by decide +kernel
theorem dX7_coreStart_11 : decode cX7_coreStart 11 = .ok (.if_icmp .ge 33, 3) := by decide +kernel
theorem dX7_coreStart_14 : decode cX7_coreStart 14 = .ok (.aload_n 0, 1) := by decide +kernel
theorem dX7_coreStart_15 : decode cX7_coreStart 15 = .ok (.getfield 9, 3) := by decide +kernel
theorem dX7_coreStart_18 : decode cX7_coreStart 18 = .ok (.iload_n 1, 1) := by decide +kernel
theorem dX7_coreStart_19 : decode cX7_coreStart 19 = .ok (.baload, 1) := by decide +kernel
theorem dX7_coreStart_20 : decode cX7_coreStart 20 = .ok (.aload_n 0, 1) := by decide +kernel
theorem dX7_coreStart_21 : decode cX7_coreStart 21 = .ok (.getfield 9, 3) := by decide +kernel
theorem dX7_coreStart_24 : decode cX7_coreStart 24 = .ok (.aload_n 0, 1) := by decide +kernel
theorem dX7_coreStart_25 : decode cX7_coreStart 25 = .ok (.getfield 15, 3) := by decide +kernel
theorem dX7_coreStart_28 : decode cX7_coreStart 28 = .ok (.iconst 1, 1) := by decide +kernel
theorem dX7_coreStart_29 : decode cX7_coreStart 29 = .ok (.isub, 1) := by decide +kernel
theorem dX7_coreStart_30 : decode cX7_coreStart 30 = .ok (.iload_n 1, 1) := by decide +kernel
theorem dX7_coreStart_31 : decode cX7_coreStart 31 = .ok (.isub, 1) := by decide +kernel
theorem dX7_coreStart_32 : decode cX7_coreStart 32 = .ok (.baload, 1) := by decide +kernel
theorem dX7_coreStart_33 : decode cX7_coreStart 33 = .ok (.iconst 1, 1) := by decide +kernel
theorem dX7_coreStart_34 : decode cX7_coreStart 34 = .ok (.ixor, 1) := by decide +kernel
theorem dX7_coreStart_35 : decode cX7_coreStart 35 = .ok (.if_icmp .ne 9, 3) := by decide +kernel
theorem dX7_coreStart_38 : decode cX7_coreStart 38 = .ok (.iinc 1 1, 3) := by decide +kernel
theorem dX7_coreStart_41 : decode cX7_coreStart 41 = .ok (.goto (-39), 3) := by decide +kernel
theorem dX7_coreStart_44 : decode cX7_coreStart 44 = .ok (.iload_n 1, 1) := by decide +kernel
theorem dX7_coreStart_45 : decode cX7_coreStart 45 = .ok (.ireturn, 1) := by decide +kernel
set_option maxRecDepth 20000 in
theorem ggX7_coreSize_X7_coreStart : GoodIn wsX7_coreSize wsX7_coreStart := goodIn_ca (goodIn_r _ [6, 1, 7, 8, 9] (by decide +kernel) (by decide +kernel)) (goodIn_sub (fun _ h => List.mem_cons_of_mem _ (List.mem_append_right _ h)) (by decide +kernel))
set_option maxRecDepth 20000 in
theorem gX7_coreSize_X7_coreStart : GoodIn wsX7_coreSize (wsV RX7 23 RX7 yX7_coreStart wsX7_coreStart) := goodIn_app (goodIn_of _ (by decide +kernel)) ggX7_coreSize_X7_coreStart
theorem dX7_coreSize_0 : decode cX7_coreSize 0 = .ok (.aload_n 0, 1) := by decide +kernel
theorem dX7_coreSize_1 : decode cX7_coreSize 1 = .ok (.getfield 15, 3) := by decide +kernel
theorem dX7_coreSize_4 : decode cX7_coreSize 4 = .ok (.iconst 2, 1) := by decide +kernel
theorem dX7_coreSize_5 : decode cX7_coreSize 5 = .ok (.aload_n 0, 1) := by decide +kernel
theorem dX7_coreSize_6 : decode cX7_coreSize 6 = .ok (.invokevirtual 23, 3) := by decide +kernel
theorem dX7_coreSize_9 : decode cX7_coreSize 9 = .ok (.imul, 1) := by decide +kernel
theorem dX7_coreSize_10 : decode cX7_coreSize 10 = .ok (.isub, 1) := by decide +kernel
theorem dX7_coreSize_11 : decode cX7_coreSize 11 = .ok (.ireturn, 1) := by decide +kernel
set_option maxRecDepth 20000 in
theorem ggX7_corePeriod_X7_coreStart : GoodIn wsX7_corePeriod wsX7_coreStart := goodIn_ca (goodIn_r _ [6, 1, 7, 12, 13] (by decide +kernel) (by decide +kernel)) (goodIn_sub (fun _ h => List.mem_cons_of_mem _ (List.mem_append_right _ h)) (by decide +kernel))
set_option maxRecDepth 20000 in
theorem gX7_corePeriod_X7_coreStart : GoodIn wsX7_corePeriod (wsV RX7 23 RX7 yX7_coreStart wsX7_coreStart) := goodIn_app (goodIn_of _ (by decide +kernel)) ggX7_corePeriod_X7_coreStart
set_option maxRecDepth 20000 in
theorem ggX7_corePeriod_X7_repeats : GoodIn wsX7_corePeriod wsX7_repeats := goodIn_ca (goodIn_r _ [11, 7, 12, 13] (by decide +kernel) (by decide +kernel)) (goodIn_sub (fun _ h => List.mem_cons_of_mem _ (List.mem_append_right _ h)) (by decide +kernel))
set_option maxRecDepth 20000 in
theorem gX7_corePeriod_X7_repeats : GoodIn wsX7_corePeriod (wsV RX7 27 RX7 yX7_repeats wsX7_repeats) := goodIn_app (goodIn_of _ (by decide +kernel)) ggX7_corePeriod_X7_repeats
theorem dX7_corePeriod_0 : decode cX7_corePeriod 0 = .ok (.aload_n 0, 1) := by decide +kernel
theorem dX7_corePeriod_1 : decode cX7_corePeriod 1 = .ok (.invokevirtual 23, 3) := by decide +kernel
theorem dX7_corePeriod_4 : decode cX7_corePeriod 4 = .ok (.istore_n 1, 1) := by decide +kernel
theorem dX7_corePeriod_5 : decode cX7_corePeriod 5 = .ok (.aload_n 0, 1) := by decide +kernel
theorem dX7_corePeriod_6 : decode cX7_corePeriod 6 = .ok (.getfield 15, 3) := by decide +kernel
theorem dX7_corePeriod_9 : decode cX7_corePeriod 9 = .ok (.iconst 2, 1) := by decide +kernel
theorem dX7_corePeriod_10 : decode cX7_corePeriod 10 = .ok (.iload_n 1, 1) := by decide +kernel
theorem dX7_corePeriod_11 : decode cX7_corePeriod 11 = .ok (.imul, 1) := by decide +kernel
theorem dX7_corePeriod_12 : decode cX7_corePeriod 12 = .ok (.isub, 1) := by decide +kernel
theorem dX7_corePeriod_13 : decode cX7_corePeriod 13 = .ok (.istore_n 2, 1) := by decide +kernel
theorem dX7_corePeriod_14 : decode cX7_corePeriod 14 = .ok (.iconst 1, 1) := by decide +kernel
theorem dX7_corePeriod_15 : decode cX7_corePeriod 15 = .ok (.istore_n 3, 1) := by decide +kernel
theorem dX7_corePeriod_16 : decode cX7_corePeriod 16 = .ok (.iload_n 3, 1) := by decide +kernel
theorem dX7_corePeriod_17 : decode cX7_corePeriod 17 = .ok (.iload_n 2, 1) := by decide +kernel
theorem dX7_corePeriod_18 : decode cX7_corePeriod 18 = .ok (.if_icmp .ge 27, 3) := by decide +kernel
theorem dX7_corePeriod_21 : decode cX7_corePeriod 21 = .ok (.iload_n 2, 1) := by decide +kernel
theorem dX7_corePeriod_22 : decode cX7_corePeriod 22 = .ok (.iload_n 3, 1) := by decide +kernel
theorem dX7_corePeriod_23 : decode cX7_corePeriod 23 = .ok (.irem, 1) := by decide +kernel
theorem dX7_corePeriod_24 : decode cX7_corePeriod 24 = .ok (.ifCond .ne 15, 3) := by decide +kernel
theorem dX7_corePeriod_27 : decode cX7_corePeriod 27 = .ok (.aload_n 0, 1) := by decide +kernel
theorem dX7_corePeriod_28 : decode cX7_corePeriod 28 = .ok (.iload_n 1, 1) := by decide +kernel
theorem dX7_corePeriod_29 : decode cX7_corePeriod 29 = .ok (.iload_n 2, 1) := by decide +kernel
theorem dX7_corePeriod_30 : decode cX7_corePeriod 30 = .ok (.iload_n 3, 1) := by decide +kernel
theorem dX7_corePeriod_31 : decode cX7_corePeriod 31 = .ok (.invokevirtual 27, 3) := by decide +kernel
theorem dX7_corePeriod_34 : decode cX7_corePeriod 34 = .ok (.ifCond .eq 5, 3) := by decide +kernel
theorem dX7_corePeriod_37 : decode cX7_corePeriod 37 = .ok (.iload_n 3, 1) := by decide +kernel
theorem dX7_corePeriod_38 : decode cX7_corePeriod 38 = .ok (.ireturn, 1) := by decide +kernel
theorem dX7_corePeriod_39 : decode cX7_corePeriod 39 = .ok (.iinc 3 1, 3) := by decide +kernel
theorem dX7_corePeriod_42 : decode cX7_corePeriod 42 = .ok (.goto (-26), 3) := by decide +kernel
theorem dX7_corePeriod_45 : decode cX7_corePeriod 45 = .ok (.iload_n 2, 1) := by decide +kernel
theorem dX7_corePeriod_46 : decode cX7_corePeriod 46 = .ok (.ireturn, 1) := by decide +kernel
theorem dX7_repeats_0 : decode cX7_repeats 0 = .ok (.iload_n 1, 1) := by decide +kernel
theorem dX7_repeats_1 : decode cX7_repeats 1 = .ok (.iload_n 3, 1) := by decide +kernel
theorem dX7_repeats_2 : decode cX7_repeats 2 = .ok (.iadd, 1) := by decide +kernel
theorem dX7_repeats_3 : decode cX7_repeats 3 = .ok (.istore 4, 2) := by decide +kernel
theorem dX7_repeats_5 : decode cX7_repeats 5 = .ok (.iload 4, 2) := by decide +kernel
theorem dX7_repeats_7 : decode cX7_repeats 7 = .ok (.iload_n 1, 1) := by decide +kernel
theorem dX7_repeats_8 : decode cX7_repeats 8 = .ok (.iload_n 2, 1) := by decide +kernel
theorem dX7_repeats_9 : decode cX7_repeats 9 = .ok (.iadd, 1) := by decide +kernel
theorem dX7_repeats_10 : decode cX7_repeats 10 = .ok (.if_icmp .ge 30, 3) := by decide +kernel
theorem dX7_repeats_13 : decode cX7_repeats 13 = .ok (.aload_n 0, 1) := by decide +kernel
theorem dX7_repeats_14 : decode cX7_repeats 14 = .ok (.getfield 9, 3) := by decide +kernel
theorem dX7_repeats_17 : decode cX7_repeats 17 = .ok (.iload 4, 2) := by decide +kernel
theorem dX7_repeats_19 : decode cX7_repeats 19 = .ok (.baload, 1) := by decide +kernel
theorem dX7_repeats_20 : decode cX7_repeats 20 = .ok (.aload_n 0, 1) := by decide +kernel
theorem dX7_repeats_21 : decode cX7_repeats 21 = .ok (.getfield 9, 3) := by decide +kernel
theorem dX7_repeats_24 : decode cX7_repeats 24 = .ok (.iload 4, 2) := by decide +kernel
theorem dX7_repeats_26 : decode cX7_repeats 26 = .ok (.iload_n 3, 1) := by decide +kernel
theorem dX7_repeats_27 : decode cX7_repeats 27 = .ok (.isub, 1) := by decide +kernel
theorem dX7_repeats_28 : decode cX7_repeats 28 = .ok (.baload, 1) := by decide +kernel
theorem dX7_repeats_29 : decode cX7_repeats 29 = .ok (.if_icmp .eq 5, 3) := by decide +kernel
theorem dX7_repeats_32 : decode cX7_repeats 32 = .ok (.iconst 0, 1) := by decide +kernel
theorem dX7_repeats_33 : decode cX7_repeats 33 = .ok (.ireturn, 1) := by decide +kernel
theorem dX7_repeats_34 : decode cX7_repeats 34 = .ok (.iinc 4 1, 3) := by decide +kernel
theorem dX7_repeats_37 : decode cX7_repeats 37 = .ok (.goto (-32), 3) := by decide +kernel
theorem dX7_repeats_40 : decode cX7_repeats 40 = .ok (.iconst 1, 1) := by decide +kernel
theorem dX7_repeats_41 : decode cX7_repeats 41 = .ok (.ireturn, 1) := by decide +kernel
set_option maxRecDepth 20000 in
theorem ggX7_turnOfCore_X7_coreSize : GoodIn wsX7_turnOfCore wsX7_coreSize := goodIn_ca (goodIn_r _ [5, 6, 7, 8, 9, 4, 10, 11, 16, 17] (by decide +kernel) (by decide +kernel)) (goodIn_sub (fun _ h => List.mem_cons_of_mem _ (List.mem_append_right _ h)) (by decide +kernel))
set_option maxRecDepth 20000 in
theorem gX7_turnOfCore_X7_coreSize : GoodIn wsX7_turnOfCore (wsV RX7 31 RX7 yX7_coreSize wsX7_coreSize) := goodIn_app (goodIn_of _ (by decide +kernel)) ggX7_turnOfCore_X7_coreSize
set_option maxRecDepth 20000 in
theorem ggX7_turnOfCore_X7_coreStart : GoodIn wsX7_turnOfCore wsX7_coreStart := goodIn_ca (goodIn_r _ [10, 6, 11, 16, 17] (by decide +kernel) (by decide +kernel)) (goodIn_sub (fun _ h => List.mem_cons_of_mem _ (List.mem_append_right _ h)) (by decide +kernel))
set_option maxRecDepth 20000 in
theorem gX7_turnOfCore_X7_coreStart : GoodIn wsX7_turnOfCore (wsV RX7 23 RX7 yX7_coreStart wsX7_coreStart) := goodIn_app (goodIn_of _ (by decide +kernel)) ggX7_turnOfCore_X7_coreStart
set_option maxRecDepth 20000 in
theorem ggX7_turnOfCore_X7_isTurned : GoodIn wsX7_turnOfCore wsX7_isTurned := goodIn_ca (goodIn_r _ [15, 11, 16, 17] (by decide +kernel) (by decide +kernel)) (goodIn_sub (fun _ h => List.mem_cons_of_mem _ (List.mem_append_right _ h)) (by decide +kernel))
set_option maxRecDepth 20000 in
theorem gX7_turnOfCore_X7_isTurned : GoodIn wsX7_turnOfCore (wsV RX7 34 RX7 yX7_isTurned wsX7_isTurned) := goodIn_app (goodIn_of _ (by decide +kernel)) ggX7_turnOfCore_X7_isTurned
theorem dX7_turnOfCore_0 : decode cX7_turnOfCore 0 = .ok (.aload_n 0, 1) := by decide +kernel
theorem dX7_turnOfCore_1 : decode cX7_turnOfCore 1 = .ok (.invokevirtual 31, 3) := by decide +kernel
theorem dX7_turnOfCore_4 : decode cX7_turnOfCore 4 = .ok (.istore_n 2, 1) := by decide +kernel
theorem dX7_turnOfCore_5 : decode cX7_turnOfCore 5 = .ok (.iload_n 2, 1) := by decide +kernel
theorem dX7_turnOfCore_6 : decode cX7_turnOfCore 6 = .ok (.aload_n 1, 1) := by decide +kernel
theorem dX7_turnOfCore_7 : decode cX7_turnOfCore 7 = .ok (.invokevirtual 31, 3) := by decide +kernel
theorem dX7_turnOfCore_10 : decode cX7_turnOfCore 10 = .ok (.if_icmp .eq 5, 3) := by decide +kernel
theorem dX7_turnOfCore_13 : decode cX7_turnOfCore 13 = .ok (.iconst (-1), 1) := by decide +kernel
theorem dX7_turnOfCore_14 : decode cX7_turnOfCore 14 = .ok (.ireturn, 1) := by decide +kernel
theorem dX7_turnOfCore_15 : decode cX7_turnOfCore 15 = .ok (.iload_n 2, 1) := by decide +kernel
theorem dX7_turnOfCore_16 : decode cX7_turnOfCore 16 = .ok (.ifCond .ne 5, 3) := by decide +kernel
theorem dX7_turnOfCore_19 : decode cX7_turnOfCore 19 = .ok (.iconst 0, 1) := by decide +kernel
theorem dX7_turnOfCore_20 : decode cX7_turnOfCore 20 = .ok (.ireturn, 1) := by decide +kernel
theorem dX7_turnOfCore_21 : decode cX7_turnOfCore 21 = .ok (.iconst 0, 1) := by decide +kernel
theorem dX7_turnOfCore_22 : decode cX7_turnOfCore 22 = .ok (.istore_n 3, 1) := by decide +kernel
theorem dX7_turnOfCore_23 : decode cX7_turnOfCore 23 = .ok (.iload_n 3, 1) := by decide +kernel
theorem dX7_turnOfCore_24 : decode cX7_turnOfCore 24 = .ok (.iload_n 2, 1) := by decide +kernel
theorem dX7_turnOfCore_25 : decode cX7_turnOfCore 25 = .ok (.if_icmp .ge 29, 3) := by decide +kernel
theorem dX7_turnOfCore_28 : decode cX7_turnOfCore 28 = .ok (.aload_n 0, 1) := by decide +kernel
theorem dX7_turnOfCore_29 : decode cX7_turnOfCore 29 = .ok (.aload_n 0, 1) := by decide +kernel
theorem dX7_turnOfCore_30 : decode cX7_turnOfCore 30 = .ok (.invokevirtual 23, 3) := by decide +kernel
theorem dX7_turnOfCore_33 : decode cX7_turnOfCore 33 = .ok (.aload_n 1, 1) := by decide +kernel
theorem dX7_turnOfCore_34 : decode cX7_turnOfCore 34 = .ok (.aload_n 1, 1) := by decide +kernel
theorem dX7_turnOfCore_35 : decode cX7_turnOfCore 35 = .ok (.invokevirtual 23, 3) := by decide +kernel
theorem dX7_turnOfCore_38 : decode cX7_turnOfCore 38 = .ok (.iload_n 3, 1) := by decide +kernel
theorem dX7_turnOfCore_39 : decode cX7_turnOfCore 39 = .ok (.iload_n 2, 1) := by decide +kernel
theorem dX7_turnOfCore_40 : decode cX7_turnOfCore 40 = .ok (.invokevirtual 34, 3) := by decide +kernel
theorem dX7_turnOfCore_43 : decode cX7_turnOfCore 43 = .ok (.ifCond .eq 5, 3) := by decide +kernel
theorem dX7_turnOfCore_46 : decode cX7_turnOfCore 46 = .ok (.iload_n 3, 1) := by decide +kernel
theorem dX7_turnOfCore_47 : decode cX7_turnOfCore 47 = .ok (.ireturn, 1) := by decide +kernel
theorem dX7_turnOfCore_48 : decode cX7_turnOfCore 48 = .ok (.iinc 3 1, 3) := by decide +kernel
theorem dX7_turnOfCore_51 : decode cX7_turnOfCore 51 = .ok (.goto (-28), 3) := by decide +kernel
theorem dX7_turnOfCore_54 : decode cX7_turnOfCore 54 = .ok (.iconst (-1), 1) := by decide +kernel
theorem dX7_turnOfCore_55 : decode cX7_turnOfCore 55 = .ok (.ireturn, 1) := by decide +kernel
theorem dX7_isTurned_0 : decode cX7_isTurned 0 = .ok (.iconst 0, 1) := by decide +kernel
theorem dX7_isTurned_1 : decode cX7_isTurned 1 = .ok (.istore 6, 2) := by decide +kernel
theorem dX7_isTurned_3 : decode cX7_isTurned 3 = .ok (.iload 6, 2) := by decide +kernel
theorem dX7_isTurned_5 : decode cX7_isTurned 5 = .ok (.iload 5, 2) := by decide +kernel
theorem dX7_isTurned_7 : decode cX7_isTurned 7 = .ok (.if_icmp .ge 60, 3) := by decide +kernel
theorem dX7_isTurned_10 : decode cX7_isTurned 10 = .ok (.iload 6, 2) := by decide +kernel
theorem dX7_isTurned_12 : decode cX7_isTurned 12 = .ok (.iload 4, 2) := by decide +kernel
theorem dX7_isTurned_14 : decode cX7_isTurned 14 = .ok (.iadd, 1) := by decide +kernel
theorem dX7_isTurned_15 : decode cX7_isTurned 15 = .ok (.iload 5, 2) := by decide +kernel
theorem dX7_isTurned_17 : decode cX7_isTurned 17 = .ok (.if_icmp .ge 11, 3) := by decide +kernel
theorem dX7_isTurned_20 : decode cX7_isTurned 20 = .ok (.iload 6, 2) := by decide +kernel
theorem dX7_isTurned_22 : decode cX7_isTurned 22 = .ok (.iload 4, 2) := by decide +kernel
theorem dX7_isTurned_24 : decode cX7_isTurned 24 = .ok (.iadd, 1) := by decide +kernel
theorem dX7_isTurned_25 : decode cX7_isTurned 25 = .ok (.goto 11, 3) := by decide +kernel
theorem dX7_isTurned_28 : decode cX7_isTurned 28 = .ok (.iload 6, 2) := by decide +kernel
theorem dX7_isTurned_30 : decode cX7_isTurned 30 = .ok (.iload 4, 2) := by decide +kernel
theorem dX7_isTurned_32 : decode cX7_isTurned 32 = .ok (.iadd, 1) := by decide +kernel
theorem dX7_isTurned_33 : decode cX7_isTurned 33 = .ok (.iload 5, 2) := by decide +kernel
theorem dX7_isTurned_35 : decode cX7_isTurned 35 = .ok (.isub, 1) := by decide +kernel
theorem dX7_isTurned_36 : decode cX7_isTurned 36 = .ok (.istore 7, 2) := by decide +kernel
theorem dX7_isTurned_38 : decode cX7_isTurned 38 = .ok (.aload_n 0, 1) := by decide +kernel
theorem dX7_isTurned_39 : decode cX7_isTurned 39 = .ok (.getfield 9, 3) := by decide +kernel
theorem dX7_isTurned_42 : decode cX7_isTurned 42 = .ok (.iload_n 1, 1) := by decide +kernel
theorem dX7_isTurned_43 : decode cX7_isTurned 43 = .ok (.iload 6, 2) := by decide +kernel
theorem dX7_isTurned_45 : decode cX7_isTurned 45 = .ok (.iadd, 1) := by decide +kernel
theorem dX7_isTurned_46 : decode cX7_isTurned 46 = .ok (.baload, 1) := by decide +kernel
theorem dX7_isTurned_47 : decode cX7_isTurned 47 = .ok (.aload_n 2, 1) := by decide +kernel
theorem dX7_isTurned_48 : decode cX7_isTurned 48 = .ok (.getfield 9, 3) := by decide +kernel
theorem dX7_isTurned_51 : decode cX7_isTurned 51 = .ok (.iload_n 3, 1) := by decide +kernel
theorem dX7_isTurned_52 : decode cX7_isTurned 52 = .ok (.iload 7, 2) := by decide +kernel
theorem dX7_isTurned_54 : decode cX7_isTurned 54 = .ok (.iadd, 1) := by decide +kernel
theorem dX7_isTurned_55 : decode cX7_isTurned 55 = .ok (.baload, 1) := by decide +kernel
theorem dX7_isTurned_56 : decode cX7_isTurned 56 = .ok (.if_icmp .eq 5, 3) := by decide +kernel
theorem dX7_isTurned_59 : decode cX7_isTurned 59 = .ok (.iconst 0, 1) := by decide +kernel
theorem dX7_isTurned_60 : decode cX7_isTurned 60 = .ok (.ireturn, 1) := by decide +kernel
theorem dX7_isTurned_61 : decode cX7_isTurned 61 = .ok (.iinc 6 1, 3) := by decide +kernel
theorem dX7_isTurned_64 : decode cX7_isTurned 64 = .ok (.goto (-61), 3) := by decide +kernel
theorem dX7_isTurned_67 : decode cX7_isTurned 67 = .ok (.iconst 1, 1) := by decide +kernel
theorem dX7_isTurned_68 : decode cX7_isTurned 68 = .ok (.ireturn, 1) := by decide +kernel
set_option maxRecDepth 20000 in
theorem ggX8_init_X7_init : GoodIn wsX8_init wsX7_init := goodIn_r _ [13, 14, 2, 3, 15, 16, 17, 18] (by decide +kernel) (by decide +kernel)
set_option maxRecDepth 20000 in
theorem gX8_init_X7_init : GoodIn wsX8_init (wsX7_init) := ggX8_init_X7_init
theorem dX8_init_0 : decode cX8_init 0 = .ok (.aload_n 0, 1) := by decide +kernel
theorem dX8_init_1 : decode cX8_init 1 = .ok (.invokespecial 3, 3) := by decide +kernel
theorem dX8_init_4 : decode cX8_init 4 = .ok (.aload_n 0, 1) := by decide +kernel
theorem dX8_init_5 : decode cX8_init 5 = .ok (.new 9, 3) := by decide +kernel
theorem dX8_init_8 : decode cX8_init 8 = .ok (.dup, 1) := by decide +kernel
theorem dX8_init_9 : decode cX8_init 9 = .ok (.sipush 180, 3) := by decide +kernel
theorem dX8_init_12 : decode cX8_init 12 = .ok (.invokespecial 11, 3) := by decide +kernel
theorem dX8_init_15 : decode cX8_init 15 = .ok (.putfield 14, 3) := by decide +kernel
theorem dX8_init_18 : decode cX8_init 18 = .ok (.aload_n 0, 1) := by decide +kernel
theorem dX8_init_19 : decode cX8_init 19 = .ok (.new 9, 3) := by decide +kernel
theorem dX8_init_22 : decode cX8_init 22 = .ok (.dup, 1) := by decide +kernel
theorem dX8_init_23 : decode cX8_init 23 = .ok (.bipush 60, 2) := by decide +kernel
theorem dX8_init_25 : decode cX8_init 25 = .ok (.invokespecial 11, 3) := by decide +kernel
theorem dX8_init_28 : decode cX8_init 28 = .ok (.putfield 20, 3) := by decide +kernel
theorem dX8_init_31 : decode cX8_init 31 = .ok (.aload_n 0, 1) := by decide +kernel
theorem dX8_init_32 : decode cX8_init 32 = .ok (.bipush 36, 2) := by decide +kernel
theorem dX8_init_34 : decode cX8_init 34 = .ok (.newarray .int, 2) := by decide +kernel
theorem dX8_init_36 : decode cX8_init 36 = .ok (.putfield 23, 3) := by decide +kernel
theorem dX8_init_39 : decode cX8_init 39 = .ok (.return_, 1) := by decide +kernel
end
section
set_option maxRecDepth 20000 in
theorem ggX9_init_X7_init : GoodIn wsX9_init wsX7_init := goodIn_r _ [49, 50, 2, 3, 4, 51, 142, 143] (by decide +kernel) (by decide +kernel)
set_option maxRecDepth 20000 in
theorem gX9_init_X7_init : GoodIn wsX9_init (wsX7_init) := ggX9_init_X7_init
set_option maxRecDepth 20000 in
theorem ggX9_init_X1_init : GoodIn wsX9_init wsX1_init := goodIn_r _ [53, 54, 2, 3, 55, 56, 57, 58, 59, 60, 15, 16, 61, 62, 48, 49, 50, 4, 51, 144, 145, 146, 147, 148, 149, 150, 142, 143] (by decide +kernel) (by decide +kernel)
set_option maxRecDepth 20000 in
theorem gX9_init_X1_init_n50 : GoodIn wsX9_init (wsX1_init) := ggX9_init_X1_init
set_option maxRecDepth 20000 in
theorem ggX9_init_X5_init : GoodIn wsX9_init wsX5_init := goodIn_r _ [64, 65, 2, 3, 55, 66, 67, 68, 69, 70, 71, 72, 151, 152, 153, 154, 155, 156, 157, 158, 159] (by decide +kernel) (by decide +kernel)
set_option maxRecDepth 20000 in
theorem gX9_init_X5_init_n57 : GoodIn wsX9_init (wsX5_init) := ggX9_init_X5_init
set_option maxRecDepth 20000 in
theorem ggX9_init_X0_init : GoodIn wsX9_init wsX0_init := goodIn_r _ [74, 75, 2, 3, 76, 20, 21, 77, 78, 55, 79, 80, 52, 53, 54, 56, 57, 58, 59, 60, 15, 16, 61, 62, 48, 49, 50, 4, 51, 144, 145, 146, 147, 148, 149, 150, 160, 161, 162, 163, 142, 143] (by decide +kernel) (by decide +kernel)
set_option maxRecDepth 20000 in
theorem gX9_init_X0_init_n64 : GoodIn wsX9_init (wsX0_init) := ggX9_init_X0_init
set_option maxRecDepth 20000 in
theorem ggX9_init_X6_init : GoodIn wsX9_init wsX6_init := goodIn_r _ [82, 83, 2, 3, 84, 85, 86, 164, 165] (by decide +kernel) (by decide +kernel)
set_option maxRecDepth 20000 in
theorem gX9_init_X6_init_n71 : GoodIn wsX9_init (wsX6_init) := ggX9_init_X6_init
set_option maxRecDepth 20000 in
theorem ggX9_init_X8_init : GoodIn wsX9_init wsX8_init := goodIn_r _ [88, 89, 2, 3, 90, 15, 16, 91, 92, 55, 93, 94, 48, 49, 50, 4, 51, 142, 143, 166, 167, 168, 169, 170, 171] (by decide +kernel) (by decide +kernel)
set_option maxRecDepth 20000 in
theorem gX9_init_X8_init_n78 : GoodIn wsX9_init (wsX8_init) := ggX9_init_X8_init
set_option maxRecDepth 20000 in
theorem ggX9_init_X4_init : GoodIn wsX9_init wsX4_init := goodIn_r _ [97, 98, 2, 3, 99, 100, 101, 15, 16, 102, 103, 104, 48, 49, 50, 4, 51, 172, 173, 174, 175, 176, 142, 143] (by decide +kernel) (by decide +kernel)
set_option maxRecDepth 20000 in
theorem gX9_init_X4_init : GoodIn wsX9_init (wsX4_init) := ggX9_init_X4_init
set_option maxRecDepth 20000 in
theorem ggX9_init_X2_init : GoodIn wsX9_init wsX2_init := goodIn_r _ [107, 108, 2, 3, 109, 20, 21, 110, 111, 112, 15, 16, 52, 53, 54, 55, 56, 57, 58, 59, 60, 61, 62, 48, 49, 50, 4, 51, 113, 144, 145, 146, 147, 148, 149, 150, 177, 178, 179, 142, 143] (by decide +kernel) (by decide +kernel)
set_option maxRecDepth 20000 in
theorem gX9_init_X2_init : GoodIn wsX9_init (wsX2_init) := ggX9_init_X2_init
set_option maxRecDepth 20000 in
theorem ggX9_init_X3_init : GoodIn wsX9_init wsX3_init := goodIn_r _ [116, 117, 2, 3, 118, 119, 55, 120, 84, 121, 122, 15, 16, 123, 48, 49, 50, 4, 51, 180, 181, 182, 183, 142, 143] (by decide +kernel) (by decide +kernel)
set_option maxRecDepth 20000 in
theorem gX9_init_X3_init : GoodIn wsX9_init (wsX3_init) := ggX9_init_X3_init
theorem dX9_init_0 : decode cX9_init 0 = .ok (.aload_n 0, 1) := by decide +kernel
theorem dX9_init_1 : decode cX9_init 1 = .ok (.invokespecial 3, 3) := by decide +kernel
theorem dX9_init_4 : decode cX9_init 4 = .ok (.aload_n 0, 1) := by decide +kernel
theorem dX9_init_5 : decode cX9_init 5 = .ok (.bipush 30, 2) := by decide +kernel
theorem dX9_init_7 : decode cX9_init 7 = .ok (.newarray .byte, 2) := by decide +kernel
theorem dX9_init_9 : decode cX9_init 9 = .ok (.putfield 9, 3) := by decide +kernel
theorem dX9_init_12 : decode cX9_init 12 = .ok (.aload_n 0, 1) := by decide +kernel
theorem dX9_init_13 : decode cX9_init 13 = .ok (.bipush 24, 2) := by decide +kernel
theorem dX9_init_15 : decode cX9_init 15 = .ok (.anewarray 13, 3) := by decide +kernel
theorem dX9_init_18 : decode cX9_init 18 = .ok (.putfield 15, 3) := by decide +kernel
theorem dX9_init_21 : decode cX9_init 21 = .ok (.aload_n 0, 1) := by decide +kernel
theorem dX9_init_22 : decode cX9_init 22 = .ok (.bipush 24, 2) := by decide +kernel
theorem dX9_init_24 : decode cX9_init 24 = .ok (.anewarray 13, 3) := by decide +kernel
theorem dX9_init_27 : decode cX9_init 27 = .ok (.putfield 19, 3) := by decide +kernel
theorem dX9_init_30 : decode cX9_init 30 = .ok (.aload_n 0, 1) := by decide +kernel
theorem dX9_init_31 : decode cX9_init 31 = .ok (.bipush 24, 2) := by decide +kernel
theorem dX9_init_33 : decode cX9_init 33 = .ok (.newarray .boolean, 2) := by decide +kernel
theorem dX9_init_35 : decode cX9_init 35 = .ok (.putfield 22, 3) := by decide +kernel
theorem dX9_init_38 : decode cX9_init 38 = .ok (.aload_n 0, 1) := by decide +kernel
theorem dX9_init_39 : decode cX9_init 39 = .ok (.bipush 8, 2) := by decide +kernel
theorem dX9_init_41 : decode cX9_init 41 = .ok (.anewarray 26, 3) := by decide +kernel
theorem dX9_init_44 : decode cX9_init 44 = .ok (.putfield 28, 3) := by decide +kernel
theorem dX9_init_47 : decode cX9_init 47 = .ok (.aload_n 0, 1) := by decide +kernel
theorem dX9_init_48 : decode cX9_init 48 = .ok (.bipush 6, 2) := by decide +kernel
theorem dX9_init_50 : decode cX9_init 50 = .ok (.anewarray 32, 3) := by decide +kernel
theorem dX9_init_53 : decode cX9_init 53 = .ok (.putfield 34, 3) := by decide +kernel
theorem dX9_init_56 : decode cX9_init 56 = .ok (.aload_n 0, 1) := by decide +kernel
theorem dX9_init_57 : decode cX9_init 57 = .ok (.new 13, 3) := by decide +kernel
theorem dX9_init_60 : decode cX9_init 60 = .ok (.dup, 1) := by decide +kernel
theorem dX9_init_61 : decode cX9_init 61 = .ok (.sipush 3600, 3) := by decide +kernel
theorem dX9_init_64 : decode cX9_init 64 = .ok (.invokespecial 38, 3) := by decide +kernel
theorem dX9_init_67 : decode cX9_init 67 = .ok (.putfield 41, 3) := by decide +kernel
theorem dX9_init_70 : decode cX9_init 70 = .ok (.aload_n 0, 1) := by decide +kernel
theorem dX9_init_71 : decode cX9_init 71 = .ok (.new 13, 3) := by decide +kernel
theorem dX9_init_74 : decode cX9_init 74 = .ok (.dup, 1) := by decide +kernel
theorem dX9_init_75 : decode cX9_init 75 = .ok (.sipush 3600, 3) := by decide +kernel
theorem dX9_init_78 : decode cX9_init 78 = .ok (.invokespecial 38, 3) := by decide +kernel
theorem dX9_init_81 : decode cX9_init 81 = .ok (.putfield 45, 3) := by decide +kernel
theorem dX9_init_84 : decode cX9_init 84 = .ok (.aload_n 0, 1) := by decide +kernel
theorem dX9_init_85 : decode cX9_init 85 = .ok (.new 48, 3) := by decide +kernel
theorem dX9_init_88 : decode cX9_init 88 = .ok (.dup, 1) := by decide +kernel
theorem dX9_init_89 : decode cX9_init 89 = .ok (.invokespecial 50, 3) := by decide +kernel
theorem dX9_init_92 : decode cX9_init 92 = .ok (.putfield 51, 3) := by decide +kernel
theorem dX9_init_95 : decode cX9_init 95 = .ok (.aload_n 0, 1) := by decide +kernel
theorem dX9_init_96 : decode cX9_init 96 = .ok (.new 55, 3) := by decide +kernel
theorem dX9_init_99 : decode cX9_init 99 = .ok (.dup, 1) := by decide +kernel
theorem dX9_init_100 : decode cX9_init 100 = .ok (.invokespecial 57, 3) := by decide +kernel
theorem dX9_init_103 : decode cX9_init 103 = .ok (.putfield 58, 3) := by decide +kernel
theorem dX9_init_106 : decode cX9_init 106 = .ok (.aload_n 0, 1) := by decide +kernel
theorem dX9_init_107 : decode cX9_init 107 = .ok (.new 62, 3) := by decide +kernel
theorem dX9_init_110 : decode cX9_init 110 = .ok (.dup, 1) := by decide +kernel
theorem dX9_init_111 : decode cX9_init 111 = .ok (.invokespecial 64, 3) := by decide +kernel
theorem dX9_init_114 : decode cX9_init 114 = .ok (.putfield 65, 3) := by decide +kernel
theorem dX9_init_117 : decode cX9_init 117 = .ok (.aload_n 0, 1) := by decide +kernel
theorem dX9_init_118 : decode cX9_init 118 = .ok (.new 69, 3) := by decide +kernel
theorem dX9_init_121 : decode cX9_init 121 = .ok (.dup, 1) := by decide +kernel
theorem dX9_init_122 : decode cX9_init 122 = .ok (.invokespecial 71, 3) := by decide +kernel
theorem dX9_init_125 : decode cX9_init 125 = .ok (.putfield 72, 3) := by decide +kernel
theorem dX9_init_128 : decode cX9_init 128 = .ok (.aload_n 0, 1) := by decide +kernel
theorem dX9_init_129 : decode cX9_init 129 = .ok (.new 76, 3) := by decide +kernel
theorem dX9_init_132 : decode cX9_init 132 = .ok (.dup, 1) := by decide +kernel
theorem dX9_init_133 : decode cX9_init 133 = .ok (.invokespecial 78, 3) := by decide +kernel
theorem dX9_init_136 : decode cX9_init 136 = .ok (.putfield 79, 3) := by decide +kernel
theorem dX9_init_139 : decode cX9_init 139 = .ok (.aload_n 0, 1) := by decide +kernel
theorem dX9_init_140 : decode cX9_init 140 = .ok (.new 83, 3) := by decide +kernel
theorem dX9_init_143 : decode cX9_init 143 = .ok (.dup, 1) := by decide +kernel
theorem dX9_init_144 : decode cX9_init 144 = .ok (.invokespecial 85, 3) := by decide +kernel
theorem dX9_init_147 : decode cX9_init 147 = .ok (.putfield 86, 3) := by decide +kernel
theorem dX9_init_150 : decode cX9_init 150 = .ok (.iconst 0, 1) := by decide +kernel
theorem dX9_init_151 : decode cX9_init 151 = .ok (.istore_n 1, 1) := by decide +kernel
theorem dX9_init_152 : decode cX9_init 152 = .ok (.iload_n 1, 1) := by decide +kernel
theorem dX9_init_153 : decode cX9_init 153 = .ok (.bipush 24, 2) := by decide +kernel
theorem dX9_init_155 : decode cX9_init 155 = .ok (.if_icmp .ge 39, 3) := by decide +kernel
theorem dX9_init_158 : decode cX9_init 158 = .ok (.aload_n 0, 1) := by decide +kernel
theorem dX9_init_159 : decode cX9_init 159 = .ok (.getfield 15, 3) := by decide +kernel
theorem dX9_init_162 : decode cX9_init 162 = .ok (.iload_n 1, 1) := by decide +kernel
theorem dX9_init_163 : decode cX9_init 163 = .ok (.new 13, 3) := by decide +kernel
theorem dX9_init_166 : decode cX9_init 166 = .ok (.dup, 1) := by decide +kernel
theorem dX9_init_167 : decode cX9_init 167 = .ok (.bipush 60, 2) := by decide +kernel
theorem dX9_init_169 : decode cX9_init 169 = .ok (.invokespecial 38, 3) := by decide +kernel
theorem dX9_init_172 : decode cX9_init 172 = .ok (.aastore, 1) := by decide +kernel
theorem dX9_init_173 : decode cX9_init 173 = .ok (.aload_n 0, 1) := by decide +kernel
theorem dX9_init_174 : decode cX9_init 174 = .ok (.getfield 19, 3) := by decide +kernel
theorem dX9_init_177 : decode cX9_init 177 = .ok (.iload_n 1, 1) := by decide +kernel
theorem dX9_init_178 : decode cX9_init 178 = .ok (.new 13, 3) := by decide +kernel
theorem dX9_init_181 : decode cX9_init 181 = .ok (.dup, 1) := by decide +kernel
theorem dX9_init_182 : decode cX9_init 182 = .ok (.bipush 60, 2) := by decide +kernel
theorem dX9_init_184 : decode cX9_init 184 = .ok (.invokespecial 38, 3) := by decide +kernel
theorem dX9_init_187 : decode cX9_init 187 = .ok (.aastore, 1) := by decide +kernel
theorem dX9_init_188 : decode cX9_init 188 = .ok (.iinc 1 1, 3) := by decide +kernel
theorem dX9_init_191 : decode cX9_init 191 = .ok (.goto (-39), 3) := by decide +kernel
theorem dX9_init_194 : decode cX9_init 194 = .ok (.iconst 0, 1) := by decide +kernel
theorem dX9_init_195 : decode cX9_init 195 = .ok (.istore_n 1, 1) := by decide +kernel
theorem dX9_init_196 : decode cX9_init 196 = .ok (.iload_n 1, 1) := by decide +kernel
theorem dX9_init_197 : decode cX9_init 197 = .ok (.bipush 8, 2) := by decide +kernel
theorem dX9_init_199 : decode cX9_init 199 = .ok (.if_icmp .ge 22, 3) := by decide +kernel
theorem dX9_init_202 : decode cX9_init 202 = .ok (.aload_n 0, 1) := by decide +kernel
theorem dX9_init_203 : decode cX9_init 203 = .ok (.getfield 28, 3) := by decide +kernel
theorem dX9_init_206 : decode cX9_init 206 = .ok (.iload_n 1, 1) := by decide +kernel
theorem dX9_init_207 : decode cX9_init 207 = .ok (.new 26, 3) := by decide +kernel
theorem dX9_init_210 : decode cX9_init 210 = .ok (.dup, 1) := by decide +kernel
theorem dX9_init_211 : decode cX9_init 211 = .ok (.invokespecial 90, 3) := by decide +kernel
theorem dX9_init_214 : decode cX9_init 214 = .ok (.aastore, 1) := by decide +kernel
theorem dX9_init_215 : decode cX9_init 215 = .ok (.iinc 1 1, 3) := by decide +kernel
theorem dX9_init_218 : decode cX9_init 218 = .ok (.goto (-22), 3) := by decide +kernel
theorem dX9_init_221 : decode cX9_init 221 = .ok (.iconst 0, 1) := by decide +kernel
theorem dX9_init_222 : decode cX9_init 222 = .ok (.istore_n 1, 1) := by decide +kernel
theorem dX9_init_223 : decode cX9_init 223 = .ok (.iload_n 1, 1) := by decide +kernel
theorem dX9_init_224 : decode cX9_init 224 = .ok (.bipush 6, 2) := by decide +kernel
theorem dX9_init_226 : decode cX9_init 226 = .ok (.if_icmp .ge 22, 3) := by decide +kernel
theorem dX9_init_229 : decode cX9_init 229 = .ok (.aload_n 0, 1) := by decide +kernel
theorem dX9_init_230 : decode cX9_init 230 = .ok (.getfield 34, 3) := by decide +kernel
theorem dX9_init_233 : decode cX9_init 233 = .ok (.iload_n 1, 1) := by decide +kernel
theorem dX9_init_234 : decode cX9_init 234 = .ok (.new 32, 3) := by decide +kernel
theorem dX9_init_237 : decode cX9_init 237 = .ok (.dup, 1) := by decide +kernel
theorem dX9_init_238 : decode cX9_init 238 = .ok (.invokespecial 91, 3) := by decide +kernel
theorem dX9_init_241 : decode cX9_init 241 = .ok (.aastore, 1) := by decide +kernel
theorem dX9_init_242 : decode cX9_init 242 = .ok (.iinc 1 1, 3) := by decide +kernel
theorem dX9_init_245 : decode cX9_init 245 = .ok (.goto (-22), 3) := by decide +kernel
theorem dX9_init_248 : decode cX9_init 248 = .ok (.return_, 1) := by decide +kernel
set_option maxRecDepth 20000 in
theorem ggX9_type_X9_codeOf : GoodIn wsX9_type wsX9_codeOf := goodIn_ca (goodIn_ca (goodIn_r _ [9, 10, 11, 12] (by decide +kernel) (by decide +kernel)) (goodIn_sub (fun _ h => List.mem_cons_of_mem _ (List.mem_append_left _ (List.mem_append_right _ h))) (by decide +kernel))) (goodIn_sub (fun _ h => List.mem_cons_of_mem _ (List.mem_append_right _ h)) (by decide +kernel))
set_option maxRecDepth 20000 in
theorem gX9_type_X9_codeOf : GoodIn wsX9_type (wsV RX9 92 RX9 yX9_codeOf wsX9_codeOf) := goodIn_app (goodIn_of _ (by decide +kernel)) ggX9_type_X9_codeOf
theorem dX9_type_0 : decode cX9_type 0 = .ok (.aload_n 0, 1) := by decide +kernel
theorem dX9_type_1 : decode cX9_type 1 = .ok (.iload_n 1, 1) := by decide +kernel
theorem dX9_type_2 : decode cX9_type 2 = .ok (.invokevirtual 92, 3) := by decide +kernel
theorem dX9_type_5 : decode cX9_type 5 = .ok (.istore_n 2, 1) := by decide +kernel
theorem dX9_type_6 : decode cX9_type 6 = .ok (.aload_n 0, 1) := by decide +kernel
theorem dX9_type_7 : decode cX9_type 7 = .ok (.getfield 96, 3) := by decide +kernel
theorem dX9_type_10 : decode cX9_type 10 = .ok (.bipush 30, 2) := by decide +kernel
theorem dX9_type_12 : decode cX9_type 12 = .ok (.if_icmp .lt 13, 3) := by decide +kernel
theorem dX9_type_15 : decode cX9_type 15 = .ok (.new 100, 3) := by decide +kernel
theorem dX9_type_18 : decode cX9_type 18 = .ok (.dup, 1) := by decide +kernel
theorem dX9_type_19 : decode cX9_type 19 = .ok (.ldc 102, 2) := by decide +kernel
theorem dX9_type_21 : decode cX9_type 21 = .ok (.invokespecial 104, 3) := by decide +kernel
theorem dX9_type_24 : decode cX9_type 24 = .ok (.athrow, 1) := by decide +kernel
theorem dX9_type_25 : decode cX9_type 25 = .ok (.aload_n 0, 1) := by decide +kernel
theorem dX9_type_26 : decode cX9_type 26 = .ok (.getfield 9, 3) := by decide +kernel
theorem dX9_type_29 : decode cX9_type 29 = .ok (.aload_n 0, 1) := by decide +kernel
theorem dX9_type_30 : decode cX9_type 30 = .ok (.getfield 96, 3) := by decide +kernel
theorem dX9_type_33 : decode cX9_type 33 = .ok (.iload_n 2, 1) := by decide +kernel
theorem dX9_type_34 : decode cX9_type 34 = .ok (.i2b, 1) := by decide +kernel
theorem dX9_type_35 : decode cX9_type 35 = .ok (.bastore, 1) := by decide +kernel
theorem dX9_type_36 : decode cX9_type 36 = .ok (.aload_n 0, 1) := by decide +kernel
theorem dX9_type_37 : decode cX9_type 37 = .ok (.dup, 1) := by decide +kernel
theorem dX9_type_38 : decode cX9_type 38 = .ok (.getfield 96, 3) := by decide +kernel
theorem dX9_type_41 : decode cX9_type 41 = .ok (.iconst 1, 1) := by decide +kernel
theorem dX9_type_42 : decode cX9_type 42 = .ok (.iadd, 1) := by decide +kernel
theorem dX9_type_43 : decode cX9_type 43 = .ok (.putfield 96, 3) := by decide +kernel
theorem dX9_type_46 : decode cX9_type 46 = .ok (.aload_n 0, 1) := by decide +kernel
theorem dX9_type_47 : decode cX9_type 47 = .ok (.getfield 96, 3) := by decide +kernel
theorem dX9_type_50 : decode cX9_type 50 = .ok (.ireturn, 1) := by decide +kernel
theorem dX9_wipe_0 : decode cX9_wipe 0 = .ok (.aload_n 0, 1) := by decide +kernel
theorem dX9_wipe_1 : decode cX9_wipe 1 = .ok (.getfield 96, 3) := by decide +kernel
theorem dX9_wipe_4 : decode cX9_wipe 4 = .ok (.istore_n 1, 1) := by decide +kernel
theorem dX9_wipe_5 : decode cX9_wipe 5 = .ok (.aload_n 0, 1) := by decide +kernel
theorem dX9_wipe_6 : decode cX9_wipe 6 = .ok (.iconst 0, 1) := by decide +kernel
theorem dX9_wipe_7 : decode cX9_wipe 7 = .ok (.putfield 96, 3) := by decide +kernel
theorem dX9_wipe_10 : decode cX9_wipe 10 = .ok (.iload_n 1, 1) := by decide +kernel
theorem dX9_wipe_11 : decode cX9_wipe 11 = .ok (.ireturn, 1) := by decide +kernel
set_option maxRecDepth 20000 in
theorem ggX9_word_X7_clear : GoodIn wsX9_word wsX7_clear := goodIn_r _ [8, 9, 47, 48] (by decide +kernel) (by decide +kernel)
set_option maxRecDepth 20000 in
theorem gX9_word_X7_clear : GoodIn wsX9_word (wsV RX9 107 RX7 yX7_clear wsX7_clear) := goodIn_app (goodIn_of _ (by decide +kernel)) ggX9_word_X7_clear
set_option maxRecDepth 20000 in
theorem ggX9_word_X7_add : GoodIn wsX9_word wsX7_add := goodIn_ca (goodIn_r _ [13, 9, 14, 47, 48] (by decide +kernel) (by decide +kernel)) (goodIn_sub (fun _ h => List.mem_cons_of_mem _ (List.mem_append_left _ (List.mem_append_right _ h))) (by decide +kernel))
set_option maxRecDepth 20000 in
theorem gX9_word_X7_add : GoodIn wsX9_word (wsV RX9 110 RX7 yX7_add wsX7_add) := goodIn_app (goodIn_of _ (by decide +kernel)) ggX9_word_X7_add
set_option maxRecDepth 20000 in
theorem ggX9_word_X9_keep : GoodIn wsX9_word wsX9_keep := goodIn_ca (goodIn_ca (goodIn_r _ [19, 20, 21, 22, 23, 24, 25, 26, 27, 7, 28, 9, 14, 29, 30, 31, 32, 33, 34, 35, 36, 37, 38, 39, 40, 41, 42, 43, 44, 45, 46, 47, 48] (by decide +kernel) (by decide +kernel)) (goodIn_sub (fun _ h => List.mem_cons_of_mem _ (List.mem_append_right _ h)) (by decide +kernel))) (goodIn_sub (fun _ h => List.mem_cons_of_mem _ (List.mem_append_left _ (List.mem_append_right _ h))) (by decide +kernel))
set_option maxRecDepth 20000 in
theorem gX9_word_X9_keep : GoodIn wsX9_word (wsV RX9 113 RX9 yX9_keep wsX9_keep) := goodIn_app (goodIn_of _ (by decide +kernel)) ggX9_word_X9_keep
theorem dX9_word_0 : decode cX9_word 0 = .ok (.aload_n 0, 1) := by decide +kernel
theorem dX9_word_1 : decode cX9_word 1 = .ok (.getfield 41, 3) := by decide +kernel
theorem dX9_word_4 : decode cX9_word 4 = .ok (.invokevirtual 107, 3) := by decide +kernel
theorem dX9_word_7 : decode cX9_word 7 = .ok (.iconst 0, 1) := by decide +kernel
theorem dX9_word_8 : decode cX9_word 8 = .ok (.istore_n 1, 1) := by decide +kernel
theorem dX9_word_9 : decode cX9_word 9 = .ok (.iload_n 1, 1) := by decide +kernel
theorem dX9_word_10 : decode cX9_word 10 = .ok (.aload_n 0, 1) := by decide +kernel
theorem dX9_word_11 : decode cX9_word 11 = .ok (.getfield 96, 3) := by decide +kernel
theorem dX9_word_14 : decode cX9_word 14 = .ok (.if_icmp .ge 22, 3) := by decide +kernel
theorem dX9_word_17 : decode cX9_word 17 = .ok (.aload_n 0, 1) := by decide +kernel
theorem dX9_word_18 : decode cX9_word 18 = .ok (.getfield 41, 3) := by decide +kernel
theorem dX9_word_21 : decode cX9_word 21 = .ok (.aload_n 0, 1) := by decide +kernel
theorem dX9_word_22 : decode cX9_word 22 = .ok (.getfield 9, 3) := by decide +kernel
theorem dX9_word_25 : decode cX9_word 25 = .ok (.iload_n 1, 1) := by decide +kernel
theorem dX9_word_26 : decode cX9_word 26 = .ok (.baload, 1) := by decide +kernel
theorem dX9_word_27 : decode cX9_word 27 = .ok (.invokevirtual 110, 3) := by decide +kernel
theorem dX9_word_30 : decode cX9_word 30 = .ok (.iinc 1 1, 3) := by decide +kernel
theorem dX9_word_33 : decode cX9_word 33 = .ok (.goto (-24), 3) := by decide +kernel
theorem dX9_word_36 : decode cX9_word 36 = .ok (.aload_n 0, 1) := by decide +kernel
theorem dX9_word_37 : decode cX9_word 37 = .ok (.aload_n 0, 1) := by decide +kernel
theorem dX9_word_38 : decode cX9_word 38 = .ok (.getfield 41, 3) := by decide +kernel
theorem dX9_word_41 : decode cX9_word 41 = .ok (.invokevirtual 113, 3) := by decide +kernel
theorem dX9_word_44 : decode cX9_word 44 = .ok (.istore_n 1, 1) := by decide +kernel
theorem dX9_word_45 : decode cX9_word 45 = .ok (.aload_n 0, 1) := by decide +kernel
theorem dX9_word_46 : decode cX9_word 46 = .ok (.iconst 0, 1) := by decide +kernel
theorem dX9_word_47 : decode cX9_word 47 = .ok (.putfield 96, 3) := by decide +kernel
theorem dX9_word_50 : decode cX9_word 50 = .ok (.iload_n 1, 1) := by decide +kernel
theorem dX9_word_51 : decode cX9_word 51 = .ok (.ireturn, 1) := by decide +kernel
set_option maxRecDepth 20000 in
theorem ggX9_length_X9_wordAt : GoodIn wsX9_length wsX9_wordAt := goodIn_ca (goodIn_r _ [6, 7, 8, 9, 10, 13, 14, 15, 16, 17, 18, 19, 20, 21, 22, 23, 24, 25, 26, 27, 28, 29, 30] (by decide +kernel) (by decide +kernel)) (goodIn_sub (fun _ h => List.mem_cons_of_mem _ (List.mem_append_right _ h)) (by decide +kernel))
set_option maxRecDepth 20000 in
theorem gX9_length_X9_wordAt : GoodIn wsX9_length (wsV RX9 117 RX9 yX9_wordAt wsX9_wordAt) := goodIn_app (goodIn_of _ (by decide +kernel)) ggX9_length_X9_wordAt
theorem dX9_length_0 : decode cX9_length 0 = .ok (.aload_n 0, 1) := by decide +kernel
theorem dX9_length_1 : decode cX9_length 1 = .ok (.iload_n 1, 1) := by decide +kernel
theorem dX9_length_2 : decode cX9_length 2 = .ok (.invokevirtual 117, 3) := by decide +kernel
theorem dX9_length_5 : decode cX9_length 5 = .ok (.getfield 121, 3) := by decide +kernel
theorem dX9_length_8 : decode cX9_length 8 = .ok (.ireturn, 1) := by decide +kernel
set_option maxRecDepth 20000 in
theorem ggX9_letter_X9_wordAt : GoodIn wsX9_letter wsX9_wordAt := goodIn_ca (goodIn_r _ [10, 11, 12, 13, 14, 17, 18, 19, 20, 21, 22, 23, 24, 25, 26, 27, 28, 29, 30, 31, 32, 33, 34] (by decide +kernel) (by decide +kernel)) (goodIn_sub (fun _ h => List.mem_cons_of_mem _ (List.mem_append_right _ h)) (by decide +kernel))
set_option maxRecDepth 20000 in
theorem gX9_letter_X9_wordAt : GoodIn wsX9_letter (wsV RX9 117 RX9 yX9_wordAt wsX9_wordAt) := goodIn_app (goodIn_of _ (by decide +kernel)) ggX9_letter_X9_wordAt
theorem dX9_letter_0 : decode cX9_letter 0 = .ok (.aload_n 0, 1) := by decide +kernel
theorem dX9_letter_1 : decode cX9_letter 1 = .ok (.iload_n 1, 1) := by decide +kernel
theorem dX9_letter_2 : decode cX9_letter 2 = .ok (.invokevirtual 117, 3) := by decide +kernel
theorem dX9_letter_5 : decode cX9_letter 5 = .ok (.astore_n 3, 1) := by decide +kernel
theorem dX9_letter_6 : decode cX9_letter 6 = .ok (.iload_n 2, 1) := by decide +kernel
theorem dX9_letter_7 : decode cX9_letter 7 = .ok (.ifCond .lt 11, 3) := by decide +kernel
theorem dX9_letter_10 : decode cX9_letter 10 = .ok (.iload_n 2, 1) := by decide +kernel
theorem dX9_letter_11 : decode cX9_letter 11 = .ok (.aload_n 3, 1) := by decide +kernel
theorem dX9_letter_12 : decode cX9_letter 12 = .ok (.getfield 121, 3) := by decide +kernel
theorem dX9_letter_15 : decode cX9_letter 15 = .ok (.if_icmp .lt 13, 3) := by decide +kernel
theorem dX9_letter_18 : decode cX9_letter 18 = .ok (.new 124, 3) := by decide +kernel
theorem dX9_letter_21 : decode cX9_letter 21 = .ok (.dup, 1) := by decide +kernel
theorem dX9_letter_22 : decode cX9_letter 22 = .ok (.ldc 126, 2) := by decide +kernel
theorem dX9_letter_24 : decode cX9_letter 24 = .ok (.invokespecial 128, 3) := by decide +kernel
theorem dX9_letter_27 : decode cX9_letter 27 = .ok (.athrow, 1) := by decide +kernel
theorem dX9_letter_28 : decode cX9_letter 28 = .ok (.getstatic 129, 3) := by decide +kernel
theorem dX9_letter_31 : decode cX9_letter 31 = .ok (.aload_n 3, 1) := by decide +kernel
theorem dX9_letter_32 : decode cX9_letter 32 = .ok (.getfield 133, 3) := by decide +kernel
theorem dX9_letter_35 : decode cX9_letter 35 = .ok (.iload_n 2, 1) := by decide +kernel
theorem dX9_letter_36 : decode cX9_letter 36 = .ok (.baload, 1) := by decide +kernel
theorem dX9_letter_37 : decode cX9_letter 37 = .ok (.caload, 1) := by decide +kernel
theorem dX9_letter_38 : decode cX9_letter 38 = .ok (.ireturn, 1) := by decide +kernel
set_option maxRecDepth 20000 in
theorem ggX9_compare_X9_wordAt : GoodIn wsX9_compare wsX9_wordAt := goodIn_ca (goodIn_r _ [5, 6, 7, 8, 9, 17, 18, 19, 20, 21, 22, 23, 24, 25, 26, 27, 28, 29, 30, 31, 32, 33, 34] (by decide +kernel) (by decide +kernel)) (goodIn_sub (fun _ h => List.mem_cons_of_mem _ (List.mem_append_left _ (List.mem_append_right _ h))) (by decide +kernel))
set_option maxRecDepth 20000 in
theorem gX9_compare_X9_wordAt : GoodIn wsX9_compare (wsV RX9 117 RX9 yX9_wordAt wsX9_wordAt) := goodIn_app (goodIn_of _ (by decide +kernel)) ggX9_compare_X9_wordAt
set_option maxRecDepth 20000 in
theorem ggX9_compare_X7_orderTo : GoodIn wsX9_compare wsX7_orderTo := goodIn_ca (goodIn_r _ [14, 15, 16, 35, 36] (by decide +kernel) (by decide +kernel)) (goodIn_sub (fun _ h => List.mem_cons_of_mem _ (List.mem_append_right _ h)) (by decide +kernel))
set_option maxRecDepth 20000 in
theorem gX9_compare_X7_orderTo : GoodIn wsX9_compare (wsV RX9 136 RX7 yX7_orderTo wsX7_orderTo) := goodIn_app (goodIn_of _ (by decide +kernel)) ggX9_compare_X7_orderTo
theorem dX9_compare_0 : decode cX9_compare 0 = .ok (.aload_n 0, 1) := by decide +kernel
theorem dX9_compare_1 : decode cX9_compare 1 = .ok (.iload_n 1, 1) := by decide +kernel
theorem dX9_compare_2 : decode cX9_compare 2 = .ok (.invokevirtual 117, 3) := by decide +kernel
theorem dX9_compare_5 : decode cX9_compare 5 = .ok (.aload_n 0, 1) := by decide +kernel
theorem dX9_compare_6 : decode cX9_compare 6 = .ok (.iload_n 2, 1) := by decide +kernel
theorem dX9_compare_7 : decode cX9_compare 7 = .ok (.invokevirtual 117, 3) := by decide +kernel
theorem dX9_compare_10 : decode cX9_compare 10 = .ok (.invokevirtual 136, 3) := by decide +kernel
theorem dX9_compare_13 : decode cX9_compare 13 = .ok (.ireturn, 1) := by decide +kernel
set_option maxRecDepth 20000 in
theorem ggX9_product_X9_wordAt : GoodIn wsX9_product wsX9_wordAt := goodIn_ca (goodIn_r _ [6, 7, 8, 9, 10, 40, 41, 42, 43, 44, 45, 46, 47, 48, 49, 50, 51, 52, 53, 54, 55, 56, 57] (by decide +kernel) (by decide +kernel)) (goodIn_sub (fun _ h => List.mem_cons_of_mem _ (List.mem_append_left _ (List.mem_append_left _ (List.mem_append_right _ h)))) (by decide +kernel))
set_option maxRecDepth 20000 in
theorem gX9_product_X9_wordAt : GoodIn wsX9_product (wsV RX9 117 RX9 yX9_wordAt wsX9_wordAt) := goodIn_app (goodIn_of _ (by decide +kernel)) ggX9_product_X9_wordAt
set_option maxRecDepth 20000 in
theorem ggX9_product_X9_setProduct : GoodIn wsX9_product wsX9_setProduct := goodIn_ca (goodIn_r _ [13, 14, 15, 16, 17, 18, 19, 20, 21, 22, 23, 24, 25, 26, 27, 28, 58, 59] (by decide +kernel) (by decide +kernel)) (goodIn_sub (fun _ h => List.mem_cons_of_mem _ (List.mem_append_left _ (List.mem_append_right _ h))) (by decide +kernel))
set_option maxRecDepth 20000 in
theorem gX9_product_X9_setProduct : GoodIn wsX9_product (va_wsS RX9 139 yX9_setProduct wsX9_setProduct) := goodIn_app (goodIn_of _ (by decide +kernel)) ggX9_product_X9_setProduct
set_option maxRecDepth 20000 in
theorem ggX9_product_X9_keep : GoodIn wsX9_product wsX9_keep := goodIn_ca (goodIn_ca (goodIn_r _ [32, 33, 34, 9, 35, 10, 36, 37, 38, 17, 39, 19, 24, 40, 41, 42, 43, 44, 45, 46, 47, 48, 49, 50, 51, 52, 53, 54, 55, 56, 57, 58, 59] (by decide +kernel) (by decide +kernel)) (goodIn_sub (fun _ h => List.mem_cons_of_mem _ (List.mem_append_right _ h)) (by decide +kernel))) (goodIn_sub (fun _ h => List.mem_cons_of_mem _ (List.mem_append_left _ (List.mem_append_right _ h))) (by decide +kernel))
set_option maxRecDepth 20000 in
theorem gX9_product_X9_keep : GoodIn wsX9_product (wsV RX9 113 RX9 yX9_keep wsX9_keep) := goodIn_app (goodIn_of _ (by decide +kernel)) ggX9_product_X9_keep
theorem dX9_product_0 : decode cX9_product 0 = .ok (.aload_n 0, 1) := by decide +kernel
theorem dX9_product_1 : decode cX9_product 1 = .ok (.getfield 41, 3) := by decide +kernel
theorem dX9_product_4 : decode cX9_product 4 = .ok (.aload_n 0, 1) := by decide +kernel
theorem dX9_product_5 : decode cX9_product 5 = .ok (.iload_n 1, 1) := by decide +kernel
theorem dX9_product_6 : decode cX9_product 6 = .ok (.invokevirtual 117, 3) := by decide +kernel
theorem dX9_product_9 : decode cX9_product 9 = .ok (.aload_n 0, 1) := by decide +kernel
theorem dX9_product_10 : decode cX9_product 10 = .ok (.iload_n 2, 1) := by decide +kernel
theorem dX9_product_11 : decode cX9_product 11 = .ok (.invokevirtual 117, 3) := by decide +kernel
theorem dX9_product_14 : decode cX9_product 14 = .ok (.invokestatic 139, 3) := by decide +kernel
theorem dX9_product_17 : decode cX9_product 17 = .ok (.aload_n 0, 1) := by decide +kernel
theorem dX9_product_18 : decode cX9_product 18 = .ok (.aload_n 0, 1) := by decide +kernel
theorem dX9_product_19 : decode cX9_product 19 = .ok (.getfield 41, 3) := by decide +kernel
theorem dX9_product_22 : decode cX9_product 22 = .ok (.invokevirtual 113, 3) := by decide +kernel
theorem dX9_product_25 : decode cX9_product 25 = .ok (.ireturn, 1) := by decide +kernel
set_option maxRecDepth 20000 in
theorem ggX9_inverse_X9_wordAt : GoodIn wsX9_inverse wsX9_wordAt := goodIn_ca (goodIn_r _ [6, 7, 8, 9, 10, 37, 38, 39, 40, 41, 42, 43, 44, 45, 46, 47, 48, 49, 50, 51, 52, 53, 54] (by decide +kernel) (by decide +kernel)) (goodIn_sub (fun _ h => List.mem_cons_of_mem _ (List.mem_append_left _ (List.mem_append_left _ (List.mem_append_right _ h)))) (by decide +kernel))
set_option maxRecDepth 20000 in
theorem gX9_inverse_X9_wordAt : GoodIn wsX9_inverse (wsV RX9 117 RX9 yX9_wordAt wsX9_wordAt) := goodIn_app (goodIn_of _ (by decide +kernel)) ggX9_inverse_X9_wordAt
set_option maxRecDepth 20000 in
theorem ggX9_inverse_X7_clear : GoodIn wsX9_inverse wsX7_clear := goodIn_r _ [15, 16, 55, 56] (by decide +kernel) (by decide +kernel)
set_option maxRecDepth 20000 in
theorem gX9_inverse_X7_clear : GoodIn wsX9_inverse (wsV RX9 107 RX7 yX7_clear wsX7_clear) := goodIn_app (goodIn_of _ (by decide +kernel)) ggX9_inverse_X7_clear
set_option maxRecDepth 20000 in
theorem ggX9_inverse_X7_addInverse : GoodIn wsX9_inverse wsX7_addInverse := goodIn_ca (goodIn_r _ [20, 16, 21, 22, 23, 24, 14, 25, 55, 56] (by decide +kernel) (by decide +kernel)) (goodIn_sub (fun _ h => List.mem_cons_of_mem _ (List.mem_append_left _ (List.mem_append_right _ h))) (by decide +kernel))
set_option maxRecDepth 20000 in
theorem gX9_inverse_X7_addInverse : GoodIn wsX9_inverse (wsV RX9 143 RX7 yX7_addInverse wsX7_addInverse) := goodIn_app (goodIn_of _ (by decide +kernel)) ggX9_inverse_X7_addInverse
set_option maxRecDepth 20000 in
theorem ggX9_inverse_X9_keep : GoodIn wsX9_inverse wsX9_keep := goodIn_ca (goodIn_ca (goodIn_r _ [29, 30, 31, 9, 32, 10, 33, 34, 35, 14, 36, 16, 21, 37, 38, 39, 40, 41, 42, 43, 44, 45, 46, 47, 48, 49, 50, 51, 52, 53, 54, 55, 56] (by decide +kernel) (by decide +kernel)) (goodIn_sub (fun _ h => List.mem_cons_of_mem _ (List.mem_append_right _ h)) (by decide +kernel))) (goodIn_sub (fun _ h => List.mem_cons_of_mem _ (List.mem_append_left _ (List.mem_append_right _ h))) (by decide +kernel))
set_option maxRecDepth 20000 in
theorem gX9_inverse_X9_keep : GoodIn wsX9_inverse (wsV RX9 113 RX9 yX9_keep wsX9_keep) := goodIn_app (goodIn_of _ (by decide +kernel)) ggX9_inverse_X9_keep
theorem dX9_inverse_0 : decode cX9_inverse 0 = .ok (.aload_n 0, 1) := by decide +kernel
theorem dX9_inverse_1 : decode cX9_inverse 1 = .ok (.iload_n 1, 1) := by decide +kernel
theorem dX9_inverse_2 : decode cX9_inverse 2 = .ok (.invokevirtual 117, 3) := by decide +kernel
theorem dX9_inverse_5 : decode cX9_inverse 5 = .ok (.astore_n 2, 1) := by decide +kernel
theorem dX9_inverse_6 : decode cX9_inverse 6 = .ok (.aload_n 0, 1) := by decide +kernel
theorem dX9_inverse_7 : decode cX9_inverse 7 = .ok (.getfield 41, 3) := by decide +kernel
theorem dX9_inverse_10 : decode cX9_inverse 10 = .ok (.invokevirtual 107, 3) := by decide +kernel
theorem dX9_inverse_13 : decode cX9_inverse 13 = .ok (.aload_n 0, 1) := by decide +kernel
theorem dX9_inverse_14 : decode cX9_inverse 14 = .ok (.getfield 41, 3) := by decide +kernel
theorem dX9_inverse_17 : decode cX9_inverse 17 = .ok (.aload_n 2, 1) := by decide +kernel
theorem dX9_inverse_18 : decode cX9_inverse 18 = .ok (.invokevirtual 143, 3) := by decide +kernel
theorem dX9_inverse_21 : decode cX9_inverse 21 = .ok (.aload_n 0, 1) := by decide +kernel
theorem dX9_inverse_22 : decode cX9_inverse 22 = .ok (.aload_n 0, 1) := by decide +kernel
theorem dX9_inverse_23 : decode cX9_inverse 23 = .ok (.getfield 41, 3) := by decide +kernel
theorem dX9_inverse_26 : decode cX9_inverse 26 = .ok (.invokevirtual 113, 3) := by decide +kernel
theorem dX9_inverse_29 : decode cX9_inverse 29 = .ok (.ireturn, 1) := by decide +kernel
set_option maxRecDepth 20000 in
theorem ggX9_power_X9_wordAt : GoodIn wsX9_power wsX9_wordAt := goodIn_ca (goodIn_r _ [8, 9, 10, 11, 12, 43, 44, 45, 46, 47, 48, 49, 50, 51, 52, 53, 54, 55, 56, 57, 58, 59, 60] (by decide +kernel) (by decide +kernel)) (goodIn_sub (fun _ h => List.mem_cons_of_mem _ (List.mem_append_left _ (List.mem_append_left _ (List.mem_append_right _ h)))) (by decide +kernel))
set_option maxRecDepth 20000 in
theorem gX9_power_X9_wordAt : GoodIn wsX9_power (wsV RX9 117 RX9 yX9_wordAt wsX9_wordAt) := goodIn_app (goodIn_of _ (by decide +kernel)) ggX9_power_X9_wordAt
set_option maxRecDepth 20000 in
theorem ggX9_power_X7_clear : GoodIn wsX9_power wsX7_clear := goodIn_r _ [17, 18, 61, 62] (by decide +kernel) (by decide +kernel)
set_option maxRecDepth 20000 in
theorem gX9_power_X7_clear : GoodIn wsX9_power (wsV RX9 107 RX7 yX7_clear wsX7_clear) := goodIn_app (goodIn_of _ (by decide +kernel)) ggX9_power_X7_clear
set_option maxRecDepth 20000 in
theorem ggX9_power_X7_addRow : GoodIn wsX9_power wsX7_addRow := goodIn_ca (goodIn_r _ [22, 18, 23, 24, 25, 26, 16, 27, 61, 62] (by decide +kernel) (by decide +kernel)) (goodIn_sub (fun _ h => List.mem_cons_of_mem _ (List.mem_append_left _ (List.mem_append_right _ h))) (by decide +kernel))
set_option maxRecDepth 20000 in
theorem gX9_power_X7_addRow : GoodIn wsX9_power (wsV RX9 152 RX7 yX7_addRow wsX7_addRow) := goodIn_app (goodIn_of _ (by decide +kernel)) ggX9_power_X7_addRow
set_option maxRecDepth 20000 in
theorem ggX9_power_X7_addInverse : GoodIn wsX9_power wsX7_addInverse := goodIn_ca (goodIn_r _ [31, 18, 23, 24, 25, 26, 16, 27, 61, 62] (by decide +kernel) (by decide +kernel)) (goodIn_sub (fun _ h => List.mem_cons_of_mem _ (List.mem_append_left _ (List.mem_append_right _ h))) (by decide +kernel))
set_option maxRecDepth 20000 in
theorem gX9_power_X7_addInverse : GoodIn wsX9_power (wsV RX9 143 RX7 yX7_addInverse wsX7_addInverse) := goodIn_app (goodIn_of _ (by decide +kernel)) ggX9_power_X7_addInverse
set_option maxRecDepth 20000 in
theorem ggX9_power_X9_keep : GoodIn wsX9_power wsX9_keep := goodIn_ca (goodIn_ca (goodIn_r _ [35, 36, 37, 11, 38, 12, 39, 40, 41, 16, 42, 18, 23, 43, 44, 45, 46, 47, 48, 49, 50, 51, 52, 53, 54, 55, 56, 57, 58, 59, 60, 61, 62] (by decide +kernel) (by decide +kernel)) (goodIn_sub (fun _ h => List.mem_cons_of_mem _ (List.mem_append_right _ h)) (by decide +kernel))) (goodIn_sub (fun _ h => List.mem_cons_of_mem _ (List.mem_append_left _ (List.mem_append_right _ h))) (by decide +kernel))
set_option maxRecDepth 20000 in
theorem gX9_power_X9_keep : GoodIn wsX9_power (wsV RX9 113 RX9 yX9_keep wsX9_keep) := goodIn_app (goodIn_of _ (by decide +kernel)) ggX9_power_X9_keep
theorem dX9_power_0 : decode cX9_power 0 = .ok (.aload_n 0, 1) := by decide +kernel
theorem dX9_power_1 : decode cX9_power 1 = .ok (.iload_n 1, 1) := by decide +kernel
theorem dX9_power_2 : decode cX9_power 2 = .ok (.invokevirtual 117, 3) := by decide +kernel
theorem dX9_power_5 : decode cX9_power 5 = .ok (.astore_n 3, 1) := by decide +kernel
theorem dX9_power_6 : decode cX9_power 6 = .ok (.iload_n 2, 1) := by decide +kernel
theorem dX9_power_7 : decode cX9_power 7 = .ok (.bipush (-6), 2) := by decide +kernel
theorem dX9_power_9 : decode cX9_power 9 = .ok (.if_icmp .lt 9, 3) := by decide +kernel
theorem dX9_power_12 : decode cX9_power 12 = .ok (.iload_n 2, 1) := by decide +kernel
theorem dX9_power_13 : decode cX9_power 13 = .ok (.bipush 6, 2) := by decide +kernel
theorem dX9_power_15 : decode cX9_power 15 = .ok (.if_icmp .le 13, 3) := by decide +kernel
theorem dX9_power_18 : decode cX9_power 18 = .ok (.new 147, 3) := by decide +kernel
theorem dX9_power_21 : decode cX9_power 21 = .ok (.dup, 1) := by decide +kernel
theorem dX9_power_22 : decode cX9_power 22 = .ok (.ldc 149, 2) := by decide +kernel
theorem dX9_power_24 : decode cX9_power 24 = .ok (.invokespecial 151, 3) := by decide +kernel
theorem dX9_power_27 : decode cX9_power 27 = .ok (.athrow, 1) := by decide +kernel
theorem dX9_power_28 : decode cX9_power 28 = .ok (.aload_n 0, 1) := by decide +kernel
theorem dX9_power_29 : decode cX9_power 29 = .ok (.getfield 41, 3) := by decide +kernel
theorem dX9_power_32 : decode cX9_power 32 = .ok (.invokevirtual 107, 3) := by decide +kernel
theorem dX9_power_35 : decode cX9_power 35 = .ok (.iconst 0, 1) := by decide +kernel
theorem dX9_power_36 : decode cX9_power 36 = .ok (.istore 4, 2) := by decide +kernel
theorem dX9_power_38 : decode cX9_power 38 = .ok (.iload 4, 2) := by decide +kernel
theorem dX9_power_40 : decode cX9_power 40 = .ok (.iload_n 2, 1) := by decide +kernel
theorem dX9_power_41 : decode cX9_power 41 = .ok (.if_icmp .ge 17, 3) := by decide +kernel
theorem dX9_power_44 : decode cX9_power 44 = .ok (.aload_n 0, 1) := by decide +kernel
theorem dX9_power_45 : decode cX9_power 45 = .ok (.getfield 41, 3) := by decide +kernel
theorem dX9_power_48 : decode cX9_power 48 = .ok (.aload_n 3, 1) := by decide +kernel
theorem dX9_power_49 : decode cX9_power 49 = .ok (.invokevirtual 152, 3) := by decide +kernel
theorem dX9_power_52 : decode cX9_power 52 = .ok (.iinc 4 1, 3) := by decide +kernel
theorem dX9_power_55 : decode cX9_power 55 = .ok (.goto (-17), 3) := by decide +kernel
theorem dX9_power_58 : decode cX9_power 58 = .ok (.iconst 0, 1) := by decide +kernel
theorem dX9_power_59 : decode cX9_power 59 = .ok (.istore 4, 2) := by decide +kernel
theorem dX9_power_61 : decode cX9_power 61 = .ok (.iload 4, 2) := by decide +kernel
theorem dX9_power_63 : decode cX9_power 63 = .ok (.iload_n 2, 1) := by decide +kernel
theorem dX9_power_64 : decode cX9_power 64 = .ok (.ineg, 1) := by decide +kernel
theorem dX9_power_65 : decode cX9_power 65 = .ok (.if_icmp .ge 17, 3) := by decide +kernel
theorem dX9_power_68 : decode cX9_power 68 = .ok (.aload_n 0, 1) := by decide +kernel
theorem dX9_power_69 : decode cX9_power 69 = .ok (.getfield 41, 3) := by decide +kernel
theorem dX9_power_72 : decode cX9_power 72 = .ok (.aload_n 3, 1) := by decide +kernel
theorem dX9_power_73 : decode cX9_power 73 = .ok (.invokevirtual 143, 3) := by decide +kernel
theorem dX9_power_76 : decode cX9_power 76 = .ok (.iinc 4 1, 3) := by decide +kernel
theorem dX9_power_79 : decode cX9_power 79 = .ok (.goto (-18), 3) := by decide +kernel
theorem dX9_power_82 : decode cX9_power 82 = .ok (.aload_n 0, 1) := by decide +kernel
theorem dX9_power_83 : decode cX9_power 83 = .ok (.aload_n 0, 1) := by decide +kernel
theorem dX9_power_84 : decode cX9_power 84 = .ok (.getfield 41, 3) := by decide +kernel
theorem dX9_power_87 : decode cX9_power 87 = .ok (.invokevirtual 113, 3) := by decide +kernel
theorem dX9_power_90 : decode cX9_power 90 = .ok (.ireturn, 1) := by decide +kernel
set_option maxRecDepth 20000 in
theorem ggX9_core_X9_wordAt : GoodIn wsX9_core wsX9_wordAt := goodIn_ca (goodIn_r _ [5, 6, 7, 8, 9, 21, 22, 23, 24, 25, 26, 27, 28, 29, 30, 31, 32, 33, 34, 35, 36, 37, 38] (by decide +kernel) (by decide +kernel)) (goodIn_sub (fun _ h => List.mem_cons_of_mem _ (List.mem_append_left _ (List.mem_append_right _ h))) (by decide +kernel))
set_option maxRecDepth 20000 in
theorem gX9_core_X9_wordAt : GoodIn wsX9_core (wsV RX9 117 RX9 yX9_wordAt wsX9_wordAt) := goodIn_app (goodIn_of _ (by decide +kernel)) ggX9_core_X9_wordAt
set_option maxRecDepth 20000 in
theorem ggX9_core_X7_coreSize : GoodIn wsX9_core wsX7_coreSize := goodIn_ca (goodIn_r _ [14, 15, 16, 17, 18, 13, 19, 20, 39, 40] (by decide +kernel) (by decide +kernel)) (goodIn_sub (fun _ h => List.mem_cons_of_mem _ (List.mem_append_right _ h)) (by decide +kernel))
set_option maxRecDepth 20000 in
theorem gX9_core_X7_coreSize : GoodIn wsX9_core (wsV RX9 155 RX7 yX7_coreSize wsX7_coreSize) := goodIn_app (goodIn_of _ (by decide +kernel)) ggX9_core_X7_coreSize
theorem dX9_core_0 : decode cX9_core 0 = .ok (.aload_n 0, 1) := by decide +kernel
theorem dX9_core_1 : decode cX9_core 1 = .ok (.iload_n 1, 1) := by decide +kernel
theorem dX9_core_2 : decode cX9_core 2 = .ok (.invokevirtual 117, 3) := by decide +kernel
theorem dX9_core_5 : decode cX9_core 5 = .ok (.invokevirtual 155, 3) := by decide +kernel
theorem dX9_core_8 : decode cX9_core 8 = .ok (.ireturn, 1) := by decide +kernel
set_option maxRecDepth 20000 in
theorem ggX9_exponent_X9_wordAt : GoodIn wsX9_exponent wsX9_wordAt := goodIn_ca (goodIn_r _ [8, 9, 10, 11, 12, 34, 35, 36, 37, 38, 39, 40, 41, 42, 43, 44, 45, 46, 47, 48, 49, 50, 51] (by decide +kernel) (by decide +kernel)) (goodIn_sub (fun _ h => List.mem_cons_of_mem _ (List.mem_append_left _ (List.mem_append_right _ h))) (by decide +kernel))
set_option maxRecDepth 20000 in
theorem gX9_exponent_X9_wordAt : GoodIn wsX9_exponent (wsV RX9 117 RX9 yX9_wordAt wsX9_wordAt) := goodIn_app (goodIn_of _ (by decide +kernel)) ggX9_exponent_X9_wordAt
set_option maxRecDepth 20000 in
theorem ggX9_exponent_X7_corePeriod : GoodIn wsX9_exponent wsX7_corePeriod := goodIn_ca (goodIn_r _ [17, 18, 19, 20, 21, 16, 22, 23, 24, 25, 26, 27, 32, 33] (by decide +kernel) (by decide +kernel)) (goodIn_sub (fun _ h => List.mem_cons_of_mem _ (List.mem_append_right _ h)) (by decide +kernel))
set_option maxRecDepth 20000 in
theorem gX9_exponent_X7_corePeriod : GoodIn wsX9_exponent (wsV RX9 161 RX7 yX7_corePeriod wsX7_corePeriod) := goodIn_app (goodIn_of _ (by decide +kernel)) ggX9_exponent_X7_corePeriod
set_option maxRecDepth 20000 in
theorem ggX9_exponent_X7_coreSize : GoodIn wsX9_exponent wsX7_coreSize := goodIn_ca (goodIn_r _ [31, 18, 19, 20, 21, 16, 22, 23, 32, 33] (by decide +kernel) (by decide +kernel)) (goodIn_sub (fun _ h => List.mem_cons_of_mem _ (List.mem_append_right _ h)) (by decide +kernel))
set_option maxRecDepth 20000 in
theorem gX9_exponent_X7_coreSize : GoodIn wsX9_exponent (wsV RX9 155 RX7 yX7_coreSize wsX7_coreSize) := goodIn_app (goodIn_of _ (by decide +kernel)) ggX9_exponent_X7_coreSize
theorem dX9_exponent_0 : decode cX9_exponent 0 = .ok (.aload_n 0, 1) := by decide +kernel
theorem dX9_exponent_1 : decode cX9_exponent 1 = .ok (.iload_n 1, 1) := by decide +kernel
theorem dX9_exponent_2 : decode cX9_exponent 2 = .ok (.invokevirtual 117, 3) := by decide +kernel
theorem dX9_exponent_5 : decode cX9_exponent 5 = .ok (.astore_n 2, 1) := by decide +kernel
theorem dX9_exponent_6 : decode cX9_exponent 6 = .ok (.aload_n 2, 1) := by decide +kernel
theorem dX9_exponent_7 : decode cX9_exponent 7 = .ok (.getfield 121, 3) := by decide +kernel
theorem dX9_exponent_10 : decode cX9_exponent 10 = .ok (.ifCond .ne 13, 3) := by decide +kernel
theorem dX9_exponent_13 : decode cX9_exponent 13 = .ok (.new 124, 3) := by decide +kernel
theorem dX9_exponent_16 : decode cX9_exponent 16 = .ok (.dup, 1) := by decide +kernel
theorem dX9_exponent_17 : decode cX9_exponent 17 = .ok (.ldc 159, 2) := by decide +kernel
theorem dX9_exponent_19 : decode cX9_exponent 19 = .ok (.invokespecial 128, 3) := by decide +kernel
theorem dX9_exponent_22 : decode cX9_exponent 22 = .ok (.athrow, 1) := by decide +kernel
theorem dX9_exponent_23 : decode cX9_exponent 23 = .ok (.aload_n 2, 1) := by decide +kernel
theorem dX9_exponent_24 : decode cX9_exponent 24 = .ok (.invokevirtual 161, 3) := by decide +kernel
theorem dX9_exponent_27 : decode cX9_exponent 27 = .ok (.istore_n 3, 1) := by decide +kernel
theorem dX9_exponent_28 : decode cX9_exponent 28 = .ok (.iload_n 3, 1) := by decide +kernel
theorem dX9_exponent_29 : decode cX9_exponent 29 = .ok (.ifCond .le 12, 3) := by decide +kernel
theorem dX9_exponent_32 : decode cX9_exponent 32 = .ok (.aload_n 2, 1) := by decide +kernel
theorem dX9_exponent_33 : decode cX9_exponent 33 = .ok (.invokevirtual 155, 3) := by decide +kernel
theorem dX9_exponent_36 : decode cX9_exponent 36 = .ok (.iload_n 3, 1) := by decide +kernel
theorem dX9_exponent_37 : decode cX9_exponent 37 = .ok (.idiv, 1) := by decide +kernel
theorem dX9_exponent_38 : decode cX9_exponent 38 = .ok (.goto 4, 3) := by decide +kernel
theorem dX9_exponent_41 : decode cX9_exponent 41 = .ok (.iconst 1, 1) := by decide +kernel
theorem dX9_exponent_42 : decode cX9_exponent 42 = .ok (.ireturn, 1) := by decide +kernel
set_option maxRecDepth 20000 in
theorem ggX9_sum_X9_wordAt : GoodIn wsX9_sum wsX9_wordAt := goodIn_ca (goodIn_r _ [5, 6, 7, 8, 9, 24, 25, 26, 27, 28, 29, 30, 31, 32, 33, 34, 35, 36, 37, 38, 39, 40, 41] (by decide +kernel) (by decide +kernel)) (goodIn_sub (fun _ h => List.mem_cons_of_mem _ (List.mem_append_left _ (List.mem_append_left _ (List.mem_append_right _ h)))) (by decide +kernel))
set_option maxRecDepth 20000 in
theorem gX9_sum_X9_wordAt : GoodIn wsX9_sum (wsV RX9 117 RX9 yX9_wordAt wsX9_wordAt) := goodIn_app (goodIn_of _ (by decide +kernel)) ggX9_sum_X9_wordAt
set_option maxRecDepth 20000 in
theorem ggX9_sum_X9_codeOf : GoodIn wsX9_sum wsX9_codeOf := goodIn_ca (goodIn_ca (goodIn_r _ [13, 14, 15, 16] (by decide +kernel) (by decide +kernel)) (goodIn_sub (fun _ h => List.mem_cons_of_mem _ (List.mem_append_left _ (List.mem_append_right _ h))) (by decide +kernel))) (goodIn_sub (fun _ h => List.mem_cons_of_mem _ (List.mem_append_right _ h)) (by decide +kernel))
set_option maxRecDepth 20000 in
theorem gX9_sum_X9_codeOf : GoodIn wsX9_sum (wsV RX9 92 RX9 yX9_codeOf wsX9_codeOf) := goodIn_app (goodIn_of _ (by decide +kernel)) ggX9_sum_X9_codeOf
set_option maxRecDepth 20000 in
theorem ggX9_sum_X7_sumOf : GoodIn wsX9_sum wsX7_sumOf := goodIn_ca (goodIn_r _ [21, 22, 23, 42, 43] (by decide +kernel) (by decide +kernel)) (goodIn_sub (fun _ h => List.mem_cons_of_mem _ (List.mem_append_left _ (List.mem_append_right _ h))) (by decide +kernel))
set_option maxRecDepth 20000 in
theorem gX9_sum_X7_sumOf : GoodIn wsX9_sum (wsV RX9 164 RX7 yX7_sumOf wsX7_sumOf) := goodIn_app (goodIn_of _ (by decide +kernel)) ggX9_sum_X7_sumOf
theorem dX9_sum_0 : decode cX9_sum 0 = .ok (.aload_n 0, 1) := by decide +kernel
theorem dX9_sum_1 : decode cX9_sum 1 = .ok (.iload_n 1, 1) := by decide +kernel
theorem dX9_sum_2 : decode cX9_sum 2 = .ok (.invokevirtual 117, 3) := by decide +kernel
theorem dX9_sum_5 : decode cX9_sum 5 = .ok (.astore_n 3, 1) := by decide +kernel
theorem dX9_sum_6 : decode cX9_sum 6 = .ok (.aload_n 3, 1) := by decide +kernel
theorem dX9_sum_7 : decode cX9_sum 7 = .ok (.aload_n 0, 1) := by decide +kernel
theorem dX9_sum_8 : decode cX9_sum 8 = .ok (.iload_n 2, 1) := by decide +kernel
theorem dX9_sum_9 : decode cX9_sum 9 = .ok (.invokevirtual 92, 3) := by decide +kernel
theorem dX9_sum_12 : decode cX9_sum 12 = .ok (.invokevirtual 164, 3) := by decide +kernel
theorem dX9_sum_15 : decode cX9_sum 15 = .ok (.ireturn, 1) := by decide +kernel
set_option maxRecDepth 20000 in
theorem ggX9_commute_X9_wordAt : GoodIn wsX9_commute wsX9_wordAt := goodIn_ca (goodIn_r _ [7, 8, 9, 10, 11, 34, 35, 36, 37, 38, 39, 40, 41, 42, 43, 44, 45, 46, 47, 48, 49, 50, 51] (by decide +kernel) (by decide +kernel)) (goodIn_sub (fun _ h => List.mem_cons_of_mem _ (List.mem_append_left _ (List.mem_append_right _ h))) (by decide +kernel))
set_option maxRecDepth 20000 in
theorem gX9_commute_X9_wordAt : GoodIn wsX9_commute (wsV RX9 117 RX9 yX9_wordAt wsX9_wordAt) := goodIn_app (goodIn_of _ (by decide +kernel)) ggX9_commute_X9_wordAt
set_option maxRecDepth 20000 in
theorem ggX9_commute_X9_setProduct : GoodIn wsX9_commute wsX9_setProduct := goodIn_ca (goodIn_r _ [14, 15, 16, 17, 18, 19, 20, 21, 22, 23, 24, 25, 26, 27, 28, 29, 52, 53] (by decide +kernel) (by decide +kernel)) (goodIn_sub (fun _ h => List.mem_cons_of_mem _ (List.mem_append_right _ h)) (by decide +kernel))
set_option maxRecDepth 20000 in
theorem gX9_commute_X9_setProduct : GoodIn wsX9_commute (va_wsS RX9 139 yX9_setProduct wsX9_setProduct) := goodIn_app (goodIn_of _ (by decide +kernel)) ggX9_commute_X9_setProduct
set_option maxRecDepth 20000 in
theorem ggX9_commute_X7_orderTo : GoodIn wsX9_commute wsX7_orderTo := goodIn_ca (goodIn_r _ [33, 20, 25, 52, 53] (by decide +kernel) (by decide +kernel)) (goodIn_sub (fun _ h => List.mem_cons_of_mem _ (List.mem_append_right _ h)) (by decide +kernel))
set_option maxRecDepth 20000 in
theorem gX9_commute_X7_orderTo : GoodIn wsX9_commute (wsV RX9 136 RX7 yX7_orderTo wsX7_orderTo) := goodIn_app (goodIn_of _ (by decide +kernel)) ggX9_commute_X7_orderTo
theorem dX9_commute_0 : decode cX9_commute 0 = .ok (.aload_n 0, 1) := by decide +kernel
theorem dX9_commute_1 : decode cX9_commute 1 = .ok (.iload_n 1, 1) := by decide +kernel
theorem dX9_commute_2 : decode cX9_commute 2 = .ok (.invokevirtual 117, 3) := by decide +kernel
theorem dX9_commute_5 : decode cX9_commute 5 = .ok (.astore_n 3, 1) := by decide +kernel
theorem dX9_commute_6 : decode cX9_commute 6 = .ok (.aload_n 0, 1) := by decide +kernel
theorem dX9_commute_7 : decode cX9_commute 7 = .ok (.iload_n 2, 1) := by decide +kernel
theorem dX9_commute_8 : decode cX9_commute 8 = .ok (.invokevirtual 117, 3) := by decide +kernel
theorem dX9_commute_11 : decode cX9_commute 11 = .ok (.astore 4, 2) := by decide +kernel
theorem dX9_commute_13 : decode cX9_commute 13 = .ok (.aload_n 0, 1) := by decide +kernel
theorem dX9_commute_14 : decode cX9_commute 14 = .ok (.getfield 41, 3) := by decide +kernel
theorem dX9_commute_17 : decode cX9_commute 17 = .ok (.aload_n 3, 1) := by decide +kernel
theorem dX9_commute_18 : decode cX9_commute 18 = .ok (.aload 4, 2) := by decide +kernel
theorem dX9_commute_20 : decode cX9_commute 20 = .ok (.invokestatic 139, 3) := by decide +kernel
theorem dX9_commute_23 : decode cX9_commute 23 = .ok (.aload_n 0, 1) := by decide +kernel
theorem dX9_commute_24 : decode cX9_commute 24 = .ok (.getfield 45, 3) := by decide +kernel
theorem dX9_commute_27 : decode cX9_commute 27 = .ok (.aload 4, 2) := by decide +kernel
theorem dX9_commute_29 : decode cX9_commute 29 = .ok (.aload_n 3, 1) := by decide +kernel
theorem dX9_commute_30 : decode cX9_commute 30 = .ok (.invokestatic 139, 3) := by decide +kernel
theorem dX9_commute_33 : decode cX9_commute 33 = .ok (.aload_n 0, 1) := by decide +kernel
theorem dX9_commute_34 : decode cX9_commute 34 = .ok (.getfield 41, 3) := by decide +kernel
theorem dX9_commute_37 : decode cX9_commute 37 = .ok (.aload_n 0, 1) := by decide +kernel
theorem dX9_commute_38 : decode cX9_commute 38 = .ok (.getfield 45, 3) := by decide +kernel
theorem dX9_commute_41 : decode cX9_commute 41 = .ok (.invokevirtual 136, 3) := by decide +kernel
theorem dX9_commute_44 : decode cX9_commute 44 = .ok (.ifCond .ne 7, 3) := by decide +kernel
theorem dX9_commute_47 : decode cX9_commute 47 = .ok (.iconst 1, 1) := by decide +kernel
theorem dX9_commute_48 : decode cX9_commute 48 = .ok (.goto 4, 3) := by decide +kernel
theorem dX9_commute_51 : decode cX9_commute 51 = .ok (.iconst 0, 1) := by decide +kernel
theorem dX9_commute_52 : decode cX9_commute 52 = .ok (.ireturn, 1) := by decide +kernel
set_option maxRecDepth 20000 in
theorem ggX9_conjugator_X9_wordAt : GoodIn wsX9_conjugator wsX9_wordAt := goodIn_ca (goodIn_r _ [9, 10, 11, 12, 13, 77, 78, 79, 80, 81, 82, 83, 84, 85, 86, 87, 88, 89, 90, 91, 92, 93, 94] (by decide +kernel) (by decide +kernel)) (goodIn_sub (fun _ h => List.mem_cons_of_mem _ (List.mem_append_left _ (List.mem_append_left _ (List.mem_append_right _ h)))) (by decide +kernel))
set_option maxRecDepth 20000 in
theorem gX9_conjugator_X9_wordAt : GoodIn wsX9_conjugator (wsV RX9 117 RX9 yX9_wordAt wsX9_wordAt) := goodIn_app (goodIn_of _ (by decide +kernel)) ggX9_conjugator_X9_wordAt
set_option maxRecDepth 20000 in
theorem ggX9_conjugator_X7_turnOfCore : GoodIn wsX9_conjugator wsX7_turnOfCore := goodIn_ca (goodIn_r _ [18, 19, 20, 21, 17, 22, 23, 24, 25, 26, 27, 28, 29, 30, 31, 32, 95, 96] (by decide +kernel) (by decide +kernel)) (goodIn_sub (fun _ h => List.mem_cons_of_mem _ (List.mem_append_left _ (List.mem_append_right _ h))) (by decide +kernel))
set_option maxRecDepth 20000 in
theorem gX9_conjugator_X7_turnOfCore : GoodIn wsX9_conjugator (wsV RX9 168 RX7 yX7_turnOfCore wsX7_turnOfCore) := goodIn_app (goodIn_of _ (by decide +kernel)) ggX9_conjugator_X7_turnOfCore
set_option maxRecDepth 20000 in
theorem ggX9_conjugator_X9_setConjugator : GoodIn wsX9_conjugator wsX9_setConjugator := goodIn_ca (goodIn_r _ [36, 37, 25, 26, 17, 27, 23, 28, 38, 39, 40, 41, 42, 43, 44, 45, 46, 47, 48, 49, 50, 51, 52, 53, 24, 54, 55, 56, 57, 58, 59, 60, 61, 95, 96] (by decide +kernel) (by decide +kernel)) (goodIn_sub (fun _ h => List.mem_cons_of_mem _ (List.mem_append_left _ (List.mem_append_right _ h))) (by decide +kernel))
set_option maxRecDepth 20000 in
theorem gX9_conjugator_X9_setConjugator : GoodIn wsX9_conjugator (wsV RX9 173 RX9 yX9_setConjugator wsX9_setConjugator) := goodIn_app (goodIn_of _ (by decide +kernel)) ggX9_conjugator_X9_setConjugator
set_option maxRecDepth 20000 in
theorem ggX9_conjugator_X7_orderTo : GoodIn wsX9_conjugator wsX7_orderTo := goodIn_ca (goodIn_r _ [65, 23, 28, 95, 96] (by decide +kernel) (by decide +kernel)) (goodIn_sub (fun _ h => List.mem_cons_of_mem _ (List.mem_append_left _ (List.mem_append_right _ h))) (by decide +kernel))
set_option maxRecDepth 20000 in
theorem gX9_conjugator_X7_orderTo : GoodIn wsX9_conjugator (wsV RX9 136 RX7 yX7_orderTo wsX7_orderTo) := goodIn_app (goodIn_of _ (by decide +kernel)) ggX9_conjugator_X7_orderTo
set_option maxRecDepth 20000 in
theorem ggX9_conjugator_X9_keep : GoodIn wsX9_conjugator wsX9_keep := goodIn_ca (goodIn_ca (goodIn_r _ [69, 70, 71, 12, 72, 13, 73, 74, 75, 17, 76, 23, 28, 77, 78, 79, 80, 81, 82, 83, 84, 85, 86, 87, 88, 89, 90, 91, 92, 93, 94, 95, 96] (by decide +kernel) (by decide +kernel)) (goodIn_sub (fun _ h => List.mem_cons_of_mem _ (List.mem_append_right _ h)) (by decide +kernel))) (goodIn_sub (fun _ h => List.mem_cons_of_mem _ (List.mem_append_left _ (List.mem_append_right _ h))) (by decide +kernel))
set_option maxRecDepth 20000 in
theorem gX9_conjugator_X9_keep : GoodIn wsX9_conjugator (wsV RX9 113 RX9 yX9_keep wsX9_keep) := goodIn_app (goodIn_of _ (by decide +kernel)) ggX9_conjugator_X9_keep
theorem dX9_conjugator_0 : decode cX9_conjugator 0 = .ok (.aload_n 0, 1) := by decide +kernel
theorem dX9_conjugator_1 : decode cX9_conjugator 1 = .ok (.iload_n 1, 1) := by decide +kernel
theorem dX9_conjugator_2 : decode cX9_conjugator 2 = .ok (.invokevirtual 117, 3) := by decide +kernel
theorem dX9_conjugator_5 : decode cX9_conjugator 5 = .ok (.astore_n 3, 1) := by decide +kernel
theorem dX9_conjugator_6 : decode cX9_conjugator 6 = .ok (.aload_n 0, 1) := by decide +kernel
theorem dX9_conjugator_7 : decode cX9_conjugator 7 = .ok (.iload_n 2, 1) := by decide +kernel
theorem dX9_conjugator_8 : decode cX9_conjugator 8 = .ok (.invokevirtual 117, 3) := by decide +kernel
theorem dX9_conjugator_11 : decode cX9_conjugator 11 = .ok (.astore 4, 2) := by decide +kernel
theorem dX9_conjugator_13 : decode cX9_conjugator 13 = .ok (.aload 4, 2) := by decide +kernel
theorem dX9_conjugator_15 : decode cX9_conjugator 15 = .ok (.aload_n 3, 1) := by decide +kernel
theorem dX9_conjugator_16 : decode cX9_conjugator 16 = .ok (.invokevirtual 168, 3) := by decide +kernel
theorem dX9_conjugator_19 : decode cX9_conjugator 19 = .ok (.istore 5, 2) := by decide +kernel
theorem dX9_conjugator_21 : decode cX9_conjugator 21 = .ok (.iload 5, 2) := by decide +kernel
theorem dX9_conjugator_23 : decode cX9_conjugator 23 = .ok (.iconst (-1), 1) := by decide +kernel
theorem dX9_conjugator_24 : decode cX9_conjugator 24 = .ok (.if_icmp .ne 13, 3) := by decide +kernel
theorem dX9_conjugator_27 : decode cX9_conjugator 27 = .ok (.new 124, 3) := by decide +kernel
theorem dX9_conjugator_30 : decode cX9_conjugator 30 = .ok (.dup, 1) := by decide +kernel
theorem dX9_conjugator_31 : decode cX9_conjugator 31 = .ok (.ldc 171, 2) := by decide +kernel
theorem dX9_conjugator_33 : decode cX9_conjugator 33 = .ok (.invokespecial 128, 3) := by decide +kernel
theorem dX9_conjugator_36 : decode cX9_conjugator 36 = .ok (.athrow, 1) := by decide +kernel
theorem dX9_conjugator_37 : decode cX9_conjugator 37 = .ok (.aload_n 0, 1) := by decide +kernel
theorem dX9_conjugator_38 : decode cX9_conjugator 38 = .ok (.aload_n 0, 1) := by decide +kernel
theorem dX9_conjugator_39 : decode cX9_conjugator 39 = .ok (.getfield 41, 3) := by decide +kernel
theorem dX9_conjugator_42 : decode cX9_conjugator 42 = .ok (.aload_n 3, 1) := by decide +kernel
theorem dX9_conjugator_43 : decode cX9_conjugator 43 = .ok (.aload 4, 2) := by decide +kernel
theorem dX9_conjugator_45 : decode cX9_conjugator 45 = .ok (.iload 5, 2) := by decide +kernel
theorem dX9_conjugator_47 : decode cX9_conjugator 47 = .ok (.iconst 0, 1) := by decide +kernel
theorem dX9_conjugator_48 : decode cX9_conjugator 48 = .ok (.invokevirtual 173, 3) := by decide +kernel
theorem dX9_conjugator_51 : decode cX9_conjugator 51 = .ok (.aload_n 0, 1) := by decide +kernel
theorem dX9_conjugator_52 : decode cX9_conjugator 52 = .ok (.aload_n 0, 1) := by decide +kernel
theorem dX9_conjugator_53 : decode cX9_conjugator 53 = .ok (.getfield 45, 3) := by decide +kernel
theorem dX9_conjugator_56 : decode cX9_conjugator 56 = .ok (.aload_n 3, 1) := by decide +kernel
theorem dX9_conjugator_57 : decode cX9_conjugator 57 = .ok (.aload 4, 2) := by decide +kernel
theorem dX9_conjugator_59 : decode cX9_conjugator 59 = .ok (.iload 5, 2) := by decide +kernel
theorem dX9_conjugator_61 : decode cX9_conjugator 61 = .ok (.iconst 1, 1) := by decide +kernel
theorem dX9_conjugator_62 : decode cX9_conjugator 62 = .ok (.invokevirtual 173, 3) := by decide +kernel
theorem dX9_conjugator_65 : decode cX9_conjugator 65 = .ok (.aload_n 0, 1) := by decide +kernel
theorem dX9_conjugator_66 : decode cX9_conjugator 66 = .ok (.aload_n 0, 1) := by decide +kernel
theorem dX9_conjugator_67 : decode cX9_conjugator 67 = .ok (.getfield 45, 3) := by decide +kernel
theorem dX9_conjugator_70 : decode cX9_conjugator 70 = .ok (.aload_n 0, 1) := by decide +kernel
theorem dX9_conjugator_71 : decode cX9_conjugator 71 = .ok (.getfield 41, 3) := by decide +kernel
theorem dX9_conjugator_74 : decode cX9_conjugator 74 = .ok (.invokevirtual 136, 3) := by decide +kernel
theorem dX9_conjugator_77 : decode cX9_conjugator 77 = .ok (.ifCond .ge 10, 3) := by decide +kernel
theorem dX9_conjugator_80 : decode cX9_conjugator 80 = .ok (.aload_n 0, 1) := by decide +kernel
theorem dX9_conjugator_81 : decode cX9_conjugator 81 = .ok (.getfield 45, 3) := by decide +kernel
theorem dX9_conjugator_84 : decode cX9_conjugator 84 = .ok (.goto 7, 3) := by decide +kernel
theorem dX9_conjugator_87 : decode cX9_conjugator 87 = .ok (.aload_n 0, 1) := by decide +kernel
theorem dX9_conjugator_88 : decode cX9_conjugator 88 = .ok (.getfield 41, 3) := by decide +kernel
theorem dX9_conjugator_91 : decode cX9_conjugator 91 = .ok (.invokevirtual 113, 3) := by decide +kernel
theorem dX9_conjugator_94 : decode cX9_conjugator 94 = .ok (.ireturn, 1) := by decide +kernel
set_option maxRecDepth 20000 in
theorem ggX9_setConjugator_X7_coreStart : GoodIn wsX9_setConjugator wsX7_coreStart := goodIn_ca (goodIn_r _ [5, 6, 7, 33, 34] (by decide +kernel) (by decide +kernel)) (goodIn_sub (fun _ h => List.mem_cons_of_mem _ (List.mem_append_right _ h)) (by decide +kernel))
set_option maxRecDepth 20000 in
theorem gX9_setConjugator_X7_coreStart : GoodIn wsX9_setConjugator (wsV RX9 177 RX7 yX7_coreStart wsX7_coreStart) := goodIn_app (goodIn_of _ (by decide +kernel)) ggX9_setConjugator_X7_coreStart
set_option maxRecDepth 20000 in
theorem ggX9_setConjugator_X7_clear : GoodIn wsX9_setConjugator wsX7_clear := goodIn_r _ [11, 6, 33, 34] (by decide +kernel) (by decide +kernel)
set_option maxRecDepth 20000 in
theorem gX9_setConjugator_X7_clear : GoodIn wsX9_setConjugator (wsV RX9 107 RX7 yX7_clear wsX7_clear) := goodIn_app (goodIn_of _ (by decide +kernel)) ggX9_setConjugator_X7_clear
set_option maxRecDepth 20000 in
theorem ggX9_setConjugator_X7_addPart : GoodIn wsX9_setConjugator wsX7_addPart := goodIn_ca (goodIn_r _ [15, 6, 7, 16, 17, 18, 4, 19, 33, 34] (by decide +kernel) (by decide +kernel)) (goodIn_sub (fun _ h => List.mem_cons_of_mem _ (List.mem_append_right _ h)) (by decide +kernel))
set_option maxRecDepth 20000 in
theorem gX9_setConjugator_X7_addPart : GoodIn wsX9_setConjugator (wsV RX9 180 RX7 yX7_addPart wsX7_addPart) := goodIn_app (goodIn_of _ (by decide +kernel)) ggX9_setConjugator_X7_addPart
set_option maxRecDepth 20000 in
theorem ggX9_setConjugator_X7_corePeriod : GoodIn wsX9_setConjugator wsX7_corePeriod := goodIn_ca (goodIn_r _ [23, 6, 24, 2, 3, 4, 5, 7, 25, 26, 27, 28, 33, 34] (by decide +kernel) (by decide +kernel)) (goodIn_sub (fun _ h => List.mem_cons_of_mem _ (List.mem_append_right _ h)) (by decide +kernel))
set_option maxRecDepth 20000 in
theorem gX9_setConjugator_X7_corePeriod : GoodIn wsX9_setConjugator (wsV RX9 161 RX7 yX7_corePeriod wsX7_corePeriod) := goodIn_app (goodIn_of _ (by decide +kernel)) ggX9_setConjugator_X7_corePeriod
set_option maxRecDepth 20000 in
theorem ggX9_setConjugator_X7_addPartInverse : GoodIn wsX9_setConjugator wsX7_addPartInverse := goodIn_ca (goodIn_r _ [32, 6, 7, 16, 17, 18, 4, 19, 33, 34] (by decide +kernel) (by decide +kernel)) (goodIn_sub (fun _ h => List.mem_cons_of_mem _ (List.mem_append_right _ h)) (by decide +kernel))
set_option maxRecDepth 20000 in
theorem gX9_setConjugator_X7_addPartInverse : GoodIn wsX9_setConjugator (wsV RX9 184 RX7 yX7_addPartInverse wsX7_addPartInverse) := goodIn_app (goodIn_of _ (by decide +kernel)) ggX9_setConjugator_X7_addPartInverse
theorem dX9_setConjugator_0 : decode cX9_setConjugator 0 = .ok (.aload_n 2, 1) := by decide +kernel
theorem dX9_setConjugator_1 : decode cX9_setConjugator 1 = .ok (.invokevirtual 177, 3) := by decide +kernel
theorem dX9_setConjugator_4 : decode cX9_setConjugator 4 = .ok (.istore 6, 2) := by decide +kernel
theorem dX9_setConjugator_6 : decode cX9_setConjugator 6 = .ok (.aload_n 1, 1) := by decide +kernel
theorem dX9_setConjugator_7 : decode cX9_setConjugator 7 = .ok (.invokevirtual 107, 3) := by decide +kernel
theorem dX9_setConjugator_10 : decode cX9_setConjugator 10 = .ok (.aload_n 1, 1) := by decide +kernel
theorem dX9_setConjugator_11 : decode cX9_setConjugator 11 = .ok (.aload_n 3, 1) := by decide +kernel
theorem dX9_setConjugator_12 : decode cX9_setConjugator 12 = .ok (.iconst 0, 1) := by decide +kernel
theorem dX9_setConjugator_13 : decode cX9_setConjugator 13 = .ok (.aload_n 3, 1) := by decide +kernel
theorem dX9_setConjugator_14 : decode cX9_setConjugator 14 = .ok (.invokevirtual 177, 3) := by decide +kernel
theorem dX9_setConjugator_17 : decode cX9_setConjugator 17 = .ok (.invokevirtual 180, 3) := by decide +kernel
theorem dX9_setConjugator_20 : decode cX9_setConjugator 20 = .ok (.iload 5, 2) := by decide +kernel
theorem dX9_setConjugator_22 : decode cX9_setConjugator 22 = .ok (.ifCond .eq 23, 3) := by decide +kernel
theorem dX9_setConjugator_25 : decode cX9_setConjugator 25 = .ok (.aload_n 1, 1) := by decide +kernel
theorem dX9_setConjugator_26 : decode cX9_setConjugator 26 = .ok (.aload_n 2, 1) := by decide +kernel
theorem dX9_setConjugator_27 : decode cX9_setConjugator 27 = .ok (.iload 6, 2) := by decide +kernel
theorem dX9_setConjugator_29 : decode cX9_setConjugator 29 = .ok (.iload 4, 2) := by decide +kernel
theorem dX9_setConjugator_31 : decode cX9_setConjugator 31 = .ok (.iadd, 1) := by decide +kernel
theorem dX9_setConjugator_32 : decode cX9_setConjugator 32 = .ok (.iload 6, 2) := by decide +kernel
theorem dX9_setConjugator_34 : decode cX9_setConjugator 34 = .ok (.aload_n 2, 1) := by decide +kernel
theorem dX9_setConjugator_35 : decode cX9_setConjugator 35 = .ok (.invokevirtual 161, 3) := by decide +kernel
theorem dX9_setConjugator_38 : decode cX9_setConjugator 38 = .ok (.iadd, 1) := by decide +kernel
theorem dX9_setConjugator_39 : decode cX9_setConjugator 39 = .ok (.invokevirtual 180, 3) := by decide +kernel
theorem dX9_setConjugator_42 : decode cX9_setConjugator 42 = .ok (.goto 15, 3) := by decide +kernel
theorem dX9_setConjugator_45 : decode cX9_setConjugator 45 = .ok (.aload_n 1, 1) := by decide +kernel
theorem dX9_setConjugator_46 : decode cX9_setConjugator 46 = .ok (.aload_n 2, 1) := by decide +kernel
theorem dX9_setConjugator_47 : decode cX9_setConjugator 47 = .ok (.iload 6, 2) := by decide +kernel
theorem dX9_setConjugator_49 : decode cX9_setConjugator 49 = .ok (.iload 6, 2) := by decide +kernel
theorem dX9_setConjugator_51 : decode cX9_setConjugator 51 = .ok (.iload 4, 2) := by decide +kernel
theorem dX9_setConjugator_53 : decode cX9_setConjugator 53 = .ok (.iadd, 1) := by decide +kernel
theorem dX9_setConjugator_54 : decode cX9_setConjugator 54 = .ok (.invokevirtual 184, 3) := by decide +kernel
theorem dX9_setConjugator_57 : decode cX9_setConjugator 57 = .ok (.aload_n 1, 1) := by decide +kernel
theorem dX9_setConjugator_58 : decode cX9_setConjugator 58 = .ok (.aload_n 2, 1) := by decide +kernel
theorem dX9_setConjugator_59 : decode cX9_setConjugator 59 = .ok (.iconst 0, 1) := by decide +kernel
theorem dX9_setConjugator_60 : decode cX9_setConjugator 60 = .ok (.iload 6, 2) := by decide +kernel
theorem dX9_setConjugator_62 : decode cX9_setConjugator 62 = .ok (.invokevirtual 184, 3) := by decide +kernel
theorem dX9_setConjugator_65 : decode cX9_setConjugator 65 = .ok (.return_, 1) := by decide +kernel
set_option maxRecDepth 20000 in
theorem ggX9_isSound_X7_isCancelled : GoodIn wsX9_isSound wsX7_isCancelled := goodIn_ca (goodIn_r _ [12, 13, 14, 68, 69] (by decide +kernel) (by decide +kernel)) (goodIn_sub (fun _ h => List.mem_cons_of_mem _ (List.mem_append_right _ h)) (by decide +kernel))
set_option maxRecDepth 20000 in
theorem gX9_isSound_X7_isCancelled : GoodIn wsX9_isSound (wsV RX9 381 RX7 yX7_isCancelled wsX7_isCancelled) := goodIn_app (goodIn_of _ (by decide +kernel)) ggX9_isSound_X7_isCancelled
set_option maxRecDepth 20000 in
theorem ggX9_isSound_X2_isConsistent : GoodIn wsX9_isSound wsX2_isConsistent := goodIn_ca (goodIn_r _ [19, 20, 21, 22, 23, 24, 25, 26, 27, 28, 29, 30, 31, 32, 33, 34, 35, 36, 37, 38, 39, 40, 41, 42, 43, 44, 45, 70, 71, 72, 73, 74, 75, 76, 77, 78, 79, 68, 69] (by decide +kernel) (by decide +kernel)) (goodIn_sub (fun _ h => List.mem_cons_of_mem _ (List.mem_append_right _ h)) (by decide +kernel))
set_option maxRecDepth 20000 in
theorem gX9_isSound_X2_isConsistent : GoodIn wsX9_isSound (wsV RX9 384 RX2 yX2_isConsistent wsX2_isConsistent) := goodIn_app (goodIn_of _ (by decide +kernel)) ggX9_isSound_X2_isConsistent
theorem dX9_isSound_0 : decode cX9_isSound 0 = .ok (.iconst 1, 1) := by decide +kernel
theorem dX9_isSound_1 : decode cX9_isSound 1 = .ok (.istore_n 1, 1) := by decide +kernel
theorem dX9_isSound_2 : decode cX9_isSound 2 = .ok (.iconst 0, 1) := by decide +kernel
theorem dX9_isSound_3 : decode cX9_isSound 3 = .ok (.istore_n 2, 1) := by decide +kernel
theorem dX9_isSound_4 : decode cX9_isSound 4 = .ok (.iload_n 2, 1) := by decide +kernel
theorem dX9_isSound_5 : decode cX9_isSound 5 = .ok (.aload_n 0, 1) := by decide +kernel
theorem dX9_isSound_6 : decode cX9_isSound 6 = .ok (.getfield 368, 3) := by decide +kernel
theorem dX9_isSound_9 : decode cX9_isSound 9 = .ok (.if_icmp .ge 31, 3) := by decide +kernel
theorem dX9_isSound_12 : decode cX9_isSound 12 = .ok (.iload_n 1, 1) := by decide +kernel
theorem dX9_isSound_13 : decode cX9_isSound 13 = .ok (.ifCond .eq 19, 3) := by decide +kernel
theorem dX9_isSound_16 : decode cX9_isSound 16 = .ok (.aload_n 0, 1) := by decide +kernel
theorem dX9_isSound_17 : decode cX9_isSound 17 = .ok (.getfield 15, 3) := by decide +kernel
theorem dX9_isSound_20 : decode cX9_isSound 20 = .ok (.iload_n 2, 1) := by decide +kernel
theorem dX9_isSound_21 : decode cX9_isSound 21 = .ok (.aaload, 1) := by decide +kernel
theorem dX9_isSound_22 : decode cX9_isSound 22 = .ok (.invokevirtual 381, 3) := by decide +kernel
theorem dX9_isSound_25 : decode cX9_isSound 25 = .ok (.ifCond .eq 7, 3) := by decide +kernel
theorem dX9_isSound_28 : decode cX9_isSound 28 = .ok (.iconst 1, 1) := by decide +kernel
theorem dX9_isSound_29 : decode cX9_isSound 29 = .ok (.goto 4, 3) := by decide +kernel
theorem dX9_isSound_32 : decode cX9_isSound 32 = .ok (.iconst 0, 1) := by decide +kernel
theorem dX9_isSound_33 : decode cX9_isSound 33 = .ok (.istore_n 1, 1) := by decide +kernel
theorem dX9_isSound_34 : decode cX9_isSound 34 = .ok (.iinc 2 1, 3) := by decide +kernel
theorem dX9_isSound_37 : decode cX9_isSound 37 = .ok (.goto (-33), 3) := by decide +kernel
theorem dX9_isSound_40 : decode cX9_isSound 40 = .ok (.iconst 0, 1) := by decide +kernel
theorem dX9_isSound_41 : decode cX9_isSound 41 = .ok (.istore_n 2, 1) := by decide +kernel
theorem dX9_isSound_42 : decode cX9_isSound 42 = .ok (.iload_n 2, 1) := by decide +kernel
theorem dX9_isSound_43 : decode cX9_isSound 43 = .ok (.aload_n 0, 1) := by decide +kernel
theorem dX9_isSound_44 : decode cX9_isSound 44 = .ok (.getfield 373, 3) := by decide +kernel
theorem dX9_isSound_47 : decode cX9_isSound 47 = .ok (.if_icmp .ge 31, 3) := by decide +kernel
theorem dX9_isSound_50 : decode cX9_isSound 50 = .ok (.iload_n 1, 1) := by decide +kernel
theorem dX9_isSound_51 : decode cX9_isSound 51 = .ok (.ifCond .eq 19, 3) := by decide +kernel
theorem dX9_isSound_54 : decode cX9_isSound 54 = .ok (.aload_n 0, 1) := by decide +kernel
theorem dX9_isSound_55 : decode cX9_isSound 55 = .ok (.getfield 28, 3) := by decide +kernel
theorem dX9_isSound_58 : decode cX9_isSound 58 = .ok (.iload_n 2, 1) := by decide +kernel
theorem dX9_isSound_59 : decode cX9_isSound 59 = .ok (.aaload, 1) := by decide +kernel
theorem dX9_isSound_60 : decode cX9_isSound 60 = .ok (.invokevirtual 384, 3) := by decide +kernel
theorem dX9_isSound_63 : decode cX9_isSound 63 = .ok (.ifCond .eq 7, 3) := by decide +kernel
theorem dX9_isSound_66 : decode cX9_isSound 66 = .ok (.iconst 1, 1) := by decide +kernel
theorem dX9_isSound_67 : decode cX9_isSound 67 = .ok (.goto 4, 3) := by decide +kernel
theorem dX9_isSound_70 : decode cX9_isSound 70 = .ok (.iconst 0, 1) := by decide +kernel
theorem dX9_isSound_71 : decode cX9_isSound 71 = .ok (.istore_n 1, 1) := by decide +kernel
theorem dX9_isSound_72 : decode cX9_isSound 72 = .ok (.iinc 2 1, 3) := by decide +kernel
theorem dX9_isSound_75 : decode cX9_isSound 75 = .ok (.goto (-33), 3) := by decide +kernel
theorem dX9_isSound_78 : decode cX9_isSound 78 = .ok (.iconst 0, 1) := by decide +kernel
theorem dX9_isSound_79 : decode cX9_isSound 79 = .ok (.istore_n 2, 1) := by decide +kernel
theorem dX9_isSound_80 : decode cX9_isSound 80 = .ok (.iload_n 2, 1) := by decide +kernel
theorem dX9_isSound_81 : decode cX9_isSound 81 = .ok (.aload_n 0, 1) := by decide +kernel
theorem dX9_isSound_82 : decode cX9_isSound 82 = .ok (.getfield 314, 3) := by decide +kernel
theorem dX9_isSound_85 : decode cX9_isSound 85 = .ok (.if_icmp .ge 49, 3) := by decide +kernel
theorem dX9_isSound_88 : decode cX9_isSound 88 = .ok (.iconst 0, 1) := by decide +kernel
theorem dX9_isSound_89 : decode cX9_isSound 89 = .ok (.istore_n 3, 1) := by decide +kernel
theorem dX9_isSound_90 : decode cX9_isSound 90 = .ok (.iload_n 3, 1) := by decide +kernel
theorem dX9_isSound_91 : decode cX9_isSound 91 = .ok (.iconst 3, 1) := by decide +kernel
theorem dX9_isSound_92 : decode cX9_isSound 92 = .ok (.if_icmp .ge 36, 3) := by decide +kernel
theorem dX9_isSound_95 : decode cX9_isSound 95 = .ok (.iload_n 1, 1) := by decide +kernel
theorem dX9_isSound_96 : decode cX9_isSound 96 = .ok (.ifCond .eq 24, 3) := by decide +kernel
theorem dX9_isSound_99 : decode cX9_isSound 99 = .ok (.aload_n 0, 1) := by decide +kernel
theorem dX9_isSound_100 : decode cX9_isSound 100 = .ok (.getfield 34, 3) := by decide +kernel
theorem dX9_isSound_103 : decode cX9_isSound 103 = .ok (.iload_n 2, 1) := by decide +kernel
theorem dX9_isSound_104 : decode cX9_isSound 104 = .ok (.aaload, 1) := by decide +kernel
theorem dX9_isSound_105 : decode cX9_isSound 105 = .ok (.getfield 326, 3) := by decide +kernel
theorem dX9_isSound_108 : decode cX9_isSound 108 = .ok (.iload_n 3, 1) := by decide +kernel
theorem dX9_isSound_109 : decode cX9_isSound 109 = .ok (.aaload, 1) := by decide +kernel
theorem dX9_isSound_110 : decode cX9_isSound 110 = .ok (.invokevirtual 381, 3) := by decide +kernel
theorem dX9_isSound_113 : decode cX9_isSound 113 = .ok (.ifCond .eq 7, 3) := by decide +kernel
theorem dX9_isSound_116 : decode cX9_isSound 116 = .ok (.iconst 1, 1) := by decide +kernel
theorem dX9_isSound_117 : decode cX9_isSound 117 = .ok (.goto 4, 3) := by decide +kernel
theorem dX9_isSound_120 : decode cX9_isSound 120 = .ok (.iconst 0, 1) := by decide +kernel
theorem dX9_isSound_121 : decode cX9_isSound 121 = .ok (.istore_n 1, 1) := by decide +kernel
theorem dX9_isSound_122 : decode cX9_isSound 122 = .ok (.iinc 3 1, 3) := by decide +kernel
theorem dX9_isSound_125 : decode cX9_isSound 125 = .ok (.goto (-35), 3) := by decide +kernel
theorem dX9_isSound_128 : decode cX9_isSound 128 = .ok (.iinc 2 1, 3) := by decide +kernel
theorem dX9_isSound_131 : decode cX9_isSound 131 = .ok (.goto (-51), 3) := by decide +kernel
theorem dX9_isSound_134 : decode cX9_isSound 134 = .ok (.iload_n 1, 1) := by decide +kernel
theorem dX9_isSound_135 : decode cX9_isSound 135 = .ok (.ireturn, 1) := by decide +kernel
theorem dX9_codeOf_0 : decode cX9_codeOf 0 = .ok (.iconst 0, 1) := by decide +kernel
theorem dX9_codeOf_1 : decode cX9_codeOf 1 = .ok (.istore_n 2, 1) := by decide +kernel
theorem dX9_codeOf_2 : decode cX9_codeOf 2 = .ok (.iload_n 2, 1) := by decide +kernel
theorem dX9_codeOf_3 : decode cX9_codeOf 3 = .ok (.bipush 6, 2) := by decide +kernel
theorem dX9_codeOf_5 : decode cX9_codeOf 5 = .ok (.if_icmp .ge 20, 3) := by decide +kernel
theorem dX9_codeOf_8 : decode cX9_codeOf 8 = .ok (.getstatic 129, 3) := by decide +kernel
theorem dX9_codeOf_11 : decode cX9_codeOf 11 = .ok (.iload_n 2, 1) := by decide +kernel
theorem dX9_codeOf_12 : decode cX9_codeOf 12 = .ok (.caload, 1) := by decide +kernel
theorem dX9_codeOf_13 : decode cX9_codeOf 13 = .ok (.iload_n 1, 1) := by decide +kernel
theorem dX9_codeOf_14 : decode cX9_codeOf 14 = .ok (.if_icmp .ne 5, 3) := by decide +kernel
theorem dX9_codeOf_17 : decode cX9_codeOf 17 = .ok (.iload_n 2, 1) := by decide +kernel
theorem dX9_codeOf_18 : decode cX9_codeOf 18 = .ok (.ireturn, 1) := by decide +kernel
theorem dX9_codeOf_19 : decode cX9_codeOf 19 = .ok (.iinc 2 1, 3) := by decide +kernel
theorem dX9_codeOf_22 : decode cX9_codeOf 22 = .ok (.goto (-20), 3) := by decide +kernel
theorem dX9_codeOf_25 : decode cX9_codeOf 25 = .ok (.new 147, 3) := by decide +kernel
theorem dX9_codeOf_28 : decode cX9_codeOf 28 = .ok (.dup, 1) := by decide +kernel
theorem dX9_codeOf_29 : decode cX9_codeOf 29 = .ok (.ldc 126, 2) := by decide +kernel
theorem dX9_codeOf_31 : decode cX9_codeOf 31 = .ok (.invokespecial 151, 3) := by decide +kernel
theorem dX9_codeOf_34 : decode cX9_codeOf 34 = .ok (.athrow, 1) := by decide +kernel
theorem dX9_wordAt_0 : decode cX9_wordAt 0 = .ok (.iload_n 1, 1) := by decide +kernel
theorem dX9_wordAt_1 : decode cX9_wordAt 1 = .ok (.ifCond .lt 11, 3) := by decide +kernel
theorem dX9_wordAt_4 : decode cX9_wordAt 4 = .ok (.iload_n 1, 1) := by decide +kernel
theorem dX9_wordAt_5 : decode cX9_wordAt 5 = .ok (.aload_n 0, 1) := by decide +kernel
theorem dX9_wordAt_6 : decode cX9_wordAt 6 = .ok (.getfield 368, 3) := by decide +kernel
theorem dX9_wordAt_9 : decode cX9_wordAt 9 = .ok (.if_icmp .lt 14, 3) := by decide +kernel
theorem dX9_wordAt_12 : decode cX9_wordAt 12 = .ok (.new 387, 3) := by decide +kernel
theorem dX9_wordAt_15 : decode cX9_wordAt 15 = .ok (.dup, 1) := by decide +kernel
theorem dX9_wordAt_16 : decode cX9_wordAt 16 = .ok (.ldc_w 389, 3) := by decide +kernel
theorem dX9_wordAt_19 : decode cX9_wordAt 19 = .ok (.invokespecial 391, 3) := by decide +kernel
theorem dX9_wordAt_22 : decode cX9_wordAt 22 = .ok (.athrow, 1) := by decide +kernel
theorem dX9_wordAt_23 : decode cX9_wordAt 23 = .ok (.aload_n 0, 1) := by decide +kernel
theorem dX9_wordAt_24 : decode cX9_wordAt 24 = .ok (.getfield 15, 3) := by decide +kernel
theorem dX9_wordAt_27 : decode cX9_wordAt 27 = .ok (.iload_n 1, 1) := by decide +kernel
theorem dX9_wordAt_28 : decode cX9_wordAt 28 = .ok (.aaload, 1) := by decide +kernel
theorem dX9_wordAt_29 : decode cX9_wordAt 29 = .ok (.areturn, 1) := by decide +kernel
set_option maxRecDepth 20000 in
theorem ggX9_keep_X7_set : GoodIn wsX9_keep wsX7_set := goodIn_ca (goodIn_r _ [10, 11, 12, 31, 32] (by decide +kernel) (by decide +kernel)) (goodIn_sub (fun _ h => List.mem_cons_of_mem _ (List.mem_append_right _ h)) (by decide +kernel))
set_option maxRecDepth 20000 in
theorem gX9_keep_X7_set : GoodIn wsX9_keep (wsV RX9 329 RX7 yX7_set wsX7_set) := goodIn_app (goodIn_of _ (by decide +kernel)) ggX9_keep_X7_set
theorem dX9_keep_0 : decode cX9_keep 0 = .ok (.aload_n 0, 1) := by decide +kernel
theorem dX9_keep_1 : decode cX9_keep 1 = .ok (.getfield 368, 3) := by decide +kernel
theorem dX9_keep_4 : decode cX9_keep 4 = .ok (.bipush 24, 2) := by decide +kernel
theorem dX9_keep_6 : decode cX9_keep 6 = .ok (.if_icmp .lt 14, 3) := by decide +kernel
theorem dX9_keep_9 : decode cX9_keep 9 = .ok (.new 100, 3) := by decide +kernel
theorem dX9_keep_12 : decode cX9_keep 12 = .ok (.dup, 1) := by decide +kernel
theorem dX9_keep_13 : decode cX9_keep 13 = .ok (.ldc_w 396, 3) := by decide +kernel
theorem dX9_keep_16 : decode cX9_keep 16 = .ok (.invokespecial 104, 3) := by decide +kernel
theorem dX9_keep_19 : decode cX9_keep 19 = .ok (.athrow, 1) := by decide +kernel
theorem dX9_keep_20 : decode cX9_keep 20 = .ok (.aload_n 1, 1) := by decide +kernel
theorem dX9_keep_21 : decode cX9_keep 21 = .ok (.getfield 121, 3) := by decide +kernel
theorem dX9_keep_24 : decode cX9_keep 24 = .ok (.bipush 60, 2) := by decide +kernel
theorem dX9_keep_26 : decode cX9_keep 26 = .ok (.if_icmp .le 14, 3) := by decide +kernel
theorem dX9_keep_29 : decode cX9_keep 29 = .ok (.new 100, 3) := by decide +kernel
theorem dX9_keep_32 : decode cX9_keep 32 = .ok (.dup, 1) := by decide +kernel
theorem dX9_keep_33 : decode cX9_keep 33 = .ok (.ldc_w 398, 3) := by decide +kernel
theorem dX9_keep_36 : decode cX9_keep 36 = .ok (.invokespecial 104, 3) := by decide +kernel
theorem dX9_keep_39 : decode cX9_keep 39 = .ok (.athrow, 1) := by decide +kernel
theorem dX9_keep_40 : decode cX9_keep 40 = .ok (.aload_n 0, 1) := by decide +kernel
theorem dX9_keep_41 : decode cX9_keep 41 = .ok (.getfield 15, 3) := by decide +kernel
theorem dX9_keep_44 : decode cX9_keep 44 = .ok (.aload_n 0, 1) := by decide +kernel
theorem dX9_keep_45 : decode cX9_keep 45 = .ok (.getfield 368, 3) := by decide +kernel
theorem dX9_keep_48 : decode cX9_keep 48 = .ok (.aaload, 1) := by decide +kernel
theorem dX9_keep_49 : decode cX9_keep 49 = .ok (.aload_n 1, 1) := by decide +kernel
theorem dX9_keep_50 : decode cX9_keep 50 = .ok (.invokevirtual 329, 3) := by decide +kernel
theorem dX9_keep_53 : decode cX9_keep 53 = .ok (.aload_n 0, 1) := by decide +kernel
theorem dX9_keep_54 : decode cX9_keep 54 = .ok (.dup, 1) := by decide +kernel
theorem dX9_keep_55 : decode cX9_keep 55 = .ok (.getfield 368, 3) := by decide +kernel
theorem dX9_keep_58 : decode cX9_keep 58 = .ok (.iconst 1, 1) := by decide +kernel
theorem dX9_keep_59 : decode cX9_keep 59 = .ok (.iadd, 1) := by decide +kernel
theorem dX9_keep_60 : decode cX9_keep 60 = .ok (.putfield 368, 3) := by decide +kernel
theorem dX9_keep_63 : decode cX9_keep 63 = .ok (.aload_n 0, 1) := by decide +kernel
theorem dX9_keep_64 : decode cX9_keep 64 = .ok (.getfield 368, 3) := by decide +kernel
theorem dX9_keep_67 : decode cX9_keep 67 = .ok (.iconst 1, 1) := by decide +kernel
theorem dX9_keep_68 : decode cX9_keep 68 = .ok (.isub, 1) := by decide +kernel
theorem dX9_keep_69 : decode cX9_keep 69 = .ok (.ireturn, 1) := by decide +kernel
set_option maxRecDepth 20000 in
theorem ggX9_setProduct_X7_clear : GoodIn wsX9_setProduct wsX7_clear := goodIn_r _ [5, 6, 16, 17] (by decide +kernel) (by decide +kernel)
set_option maxRecDepth 20000 in
theorem gX9_setProduct_X7_clear : GoodIn wsX9_setProduct (wsV RX9 107 RX7 yX7_clear wsX7_clear) := goodIn_app (goodIn_of _ (by decide +kernel)) ggX9_setProduct_X7_clear
set_option maxRecDepth 20000 in
theorem ggX9_setProduct_X7_addRow : GoodIn wsX9_setProduct wsX7_addRow := goodIn_ca (goodIn_r _ [10, 6, 11, 12, 13, 14, 4, 15, 16, 17] (by decide +kernel) (by decide +kernel)) (goodIn_sub (fun _ h => List.mem_cons_of_mem _ (List.mem_append_right _ h)) (by decide +kernel))
set_option maxRecDepth 20000 in
theorem gX9_setProduct_X7_addRow : GoodIn wsX9_setProduct (wsV RX9 152 RX7 yX7_addRow wsX7_addRow) := goodIn_app (goodIn_of _ (by decide +kernel)) ggX9_setProduct_X7_addRow
theorem dX9_setProduct_0 : decode cX9_setProduct 0 = .ok (.aload_n 0, 1) := by decide +kernel
theorem dX9_setProduct_1 : decode cX9_setProduct 1 = .ok (.invokevirtual 107, 3) := by decide +kernel
theorem dX9_setProduct_4 : decode cX9_setProduct 4 = .ok (.aload_n 0, 1) := by decide +kernel
theorem dX9_setProduct_5 : decode cX9_setProduct 5 = .ok (.aload_n 1, 1) := by decide +kernel
theorem dX9_setProduct_6 : decode cX9_setProduct 6 = .ok (.invokevirtual 152, 3) := by decide +kernel
theorem dX9_setProduct_9 : decode cX9_setProduct 9 = .ok (.aload_n 0, 1) := by decide +kernel
theorem dX9_setProduct_10 : decode cX9_setProduct 10 = .ok (.aload_n 2, 1) := by decide +kernel
theorem dX9_setProduct_11 : decode cX9_setProduct 11 = .ok (.invokevirtual 152, 3) := by decide +kernel
theorem dX9_setProduct_14 : decode cX9_setProduct 14 = .ok (.return_, 1) := by decide +kernel
end
section
theorem dJx00060_init_a7421_0 : decode cJx00060_init_a7421 0 = .ok (.aload_n 0, 1) := by decide +kernel
theorem dJx00060_init_a7421_1 : decode cJx00060_init_a7421 1 = .ok (.aload_n 1, 1) := by decide +kernel
theorem dJx00060_init_a7421_2 : decode cJx00060_init_a7421 2 = .ok (.invokespecial 7, 3) := by decide +kernel
theorem dJx00060_init_a7421_5 : decode cJx00060_init_a7421 5 = .ok (.return_, 1) := by decide +kernel
set_option maxRecDepth 20000 in
theorem ggJ0_charAt_5068e_J0_isLatin1_aae02 : GoodIn wsJ0_charAt_5068e wsJ0_isLatin1_aae02 := goodIn_r _ [6, 7, 8, 38, 39] (by decide +kernel) (by decide +kernel)
set_option maxRecDepth 20000 in
theorem gJ0_charAt_5068e_J0_isLatin1_aae02 : GoodIn wsJ0_charAt_5068e (wsV RJ0 492 RJ0 yJ0_isLatin1_aae02 wsJ0_isLatin1_aae02) := goodIn_app (goodIn_of _ (by decide +kernel)) ggJ0_charAt_5068e_J0_isLatin1_aae02
set_option maxRecDepth 20000 in
theorem ggJ0_charAt_5068e_J1_charAt_3b067 : GoodIn wsJ0_charAt_5068e wsJ1_charAt_3b067 := goodIn_r _ [12, 13, 14, 5, 15, 16, 17, 18, 19, 20] (by decide +kernel) (by decide +kernel)
set_option maxRecDepth 20000 in
theorem gJ0_charAt_5068e_J1_charAt_3b067 : GoodIn wsJ0_charAt_5068e (va_wsS RJ0 495 yJ1_charAt_3b067 wsJ1_charAt_3b067) := goodIn_app (goodIn_of _ (by decide +kernel)) ggJ0_charAt_5068e_J1_charAt_3b067
set_option maxRecDepth 20000 in
theorem ggJ0_charAt_5068e_J2_charAt_3b067 : GoodIn wsJ0_charAt_5068e wsJ2_charAt_3b067 := goodIn_r _ [24, 25, 26, 23, 27, 28, 29, 30, 31, 14, 5, 15, 16, 17, 18, 19, 20, 32, 33, 34, 35, 36, 37] (by decide +kernel) (by decide +kernel)
set_option maxRecDepth 20000 in
theorem gJ0_charAt_5068e_J2_charAt_3b067 : GoodIn wsJ0_charAt_5068e (va_wsS RJ0 498 yJ2_charAt_3b067 wsJ2_charAt_3b067) := goodIn_app (goodIn_of _ (by decide +kernel)) ggJ0_charAt_5068e_J2_charAt_3b067
theorem dJ0_charAt_5068e_0 : decode cJ0_charAt_5068e 0 = .ok (.aload_n 0, 1) := by decide +kernel
theorem dJ0_charAt_5068e_1 : decode cJ0_charAt_5068e 1 = .ok (.invokevirtual 492, 3) := by decide +kernel
theorem dJ0_charAt_5068e_4 : decode cJ0_charAt_5068e 4 = .ok (.ifCond .eq 12, 3) := by decide +kernel
theorem dJ0_charAt_5068e_7 : decode cJ0_charAt_5068e 7 = .ok (.aload_n 0, 1) := by decide +kernel
theorem dJ0_charAt_5068e_8 : decode cJ0_charAt_5068e 8 = .ok (.getfield 9, 3) := by decide +kernel
theorem dJ0_charAt_5068e_11 : decode cJ0_charAt_5068e 11 = .ok (.iload_n 1, 1) := by decide +kernel
theorem dJ0_charAt_5068e_12 : decode cJ0_charAt_5068e 12 = .ok (.invokestatic 495, 3) := by decide +kernel
theorem dJ0_charAt_5068e_15 : decode cJ0_charAt_5068e 15 = .ok (.ireturn, 1) := by decide +kernel
theorem dJ0_charAt_5068e_16 : decode cJ0_charAt_5068e 16 = .ok (.aload_n 0, 1) := by decide +kernel
theorem dJ0_charAt_5068e_17 : decode cJ0_charAt_5068e 17 = .ok (.getfield 9, 3) := by decide +kernel
theorem dJ0_charAt_5068e_20 : decode cJ0_charAt_5068e 20 = .ok (.iload_n 1, 1) := by decide +kernel
theorem dJ0_charAt_5068e_21 : decode cJ0_charAt_5068e 21 = .ok (.invokestatic 498, 3) := by decide +kernel
theorem dJ0_charAt_5068e_24 : decode cJ0_charAt_5068e 24 = .ok (.ireturn, 1) := by decide +kernel
theorem dJ0_isLatin1_aae02_0 : decode cJ0_isLatin1_aae02 0 = .ok (.getstatic 38, 3) := by decide +kernel
theorem dJ0_isLatin1_aae02_3 : decode cJ0_isLatin1_aae02 3 = .ok (.ifCond .eq 14, 3) := by decide +kernel
theorem dJ0_isLatin1_aae02_6 : decode cJ0_isLatin1_aae02 6 = .ok (.aload_n 0, 1) := by decide +kernel
theorem dJ0_isLatin1_aae02_7 : decode cJ0_isLatin1_aae02 7 = .ok (.getfield 15, 3) := by decide +kernel
theorem dJ0_isLatin1_aae02_10 : decode cJ0_isLatin1_aae02 10 = .ok (.ifCond .ne 7, 3) := by decide +kernel
theorem dJ0_isLatin1_aae02_13 : decode cJ0_isLatin1_aae02 13 = .ok (.iconst 1, 1) := by decide +kernel
theorem dJ0_isLatin1_aae02_14 : decode cJ0_isLatin1_aae02 14 = .ok (.goto 4, 3) := by decide +kernel
theorem dJ0_isLatin1_aae02_17 : decode cJ0_isLatin1_aae02 17 = .ok (.iconst 0, 1) := by decide +kernel
theorem dJ0_isLatin1_aae02_18 : decode cJ0_isLatin1_aae02 18 = .ok (.ireturn, 1) := by decide +kernel
set_option maxRecDepth 20000 in
theorem ggJ0_checkIndex_df160_J3_checkIndex_8e157 : GoodIn wsJ0_checkIndex_df160 wsJ3_checkIndex_8e157 := goodIn_r _ [5] (by decide +kernel) (by decide +kernel)
set_option maxRecDepth 20000 in
theorem gJ0_checkIndex_df160_J3_checkIndex_8e157 : GoodIn wsJ0_checkIndex_df160 (va_wsS RJ0 1059 yJ3_checkIndex_8e157 wsJ3_checkIndex_8e157) := goodIn_app (goodIn_of _ (by decide +kernel)) ggJ0_checkIndex_df160_J3_checkIndex_8e157
theorem dJ0_checkIndex_df160_0 : decode cJ0_checkIndex_df160 0 = .ok (.iload_n 0, 1) := by decide +kernel
theorem dJ0_checkIndex_df160_1 : decode cJ0_checkIndex_df160 1 = .ok (.iload_n 1, 1) := by decide +kernel
theorem dJ0_checkIndex_df160_2 : decode cJ0_checkIndex_df160 2 = .ok (.getstatic 1053, 3) := by decide +kernel
theorem dJ0_checkIndex_df160_5 : decode cJ0_checkIndex_df160 5 = .ok (.invokestatic 1059, 3) := by decide +kernel
theorem dJ0_checkIndex_df160_8 : decode cJ0_checkIndex_df160 8 = .ok (.pop, 1) := by decide +kernel
theorem dJ0_checkIndex_df160_9 : decode cJ0_checkIndex_df160 9 = .ok (.return_, 1) := by decide +kernel
set_option maxRecDepth 20000 in
theorem ggJ1_charAt_3b067_J0_checkIndex_df160 : GoodIn wsJ1_charAt_3b067 wsJ0_checkIndex_df160 := goodIn_r _ [4, 5, 6, 7, 8, 9] (by decide +kernel) (by decide +kernel)
set_option maxRecDepth 20000 in
theorem gJ1_charAt_3b067_J0_checkIndex_df160 : GoodIn wsJ1_charAt_3b067 (va_wsS RJ1 9 yJ0_checkIndex_df160 wsJ0_checkIndex_df160) := goodIn_app (goodIn_of _ (by decide +kernel)) ggJ1_charAt_3b067_J0_checkIndex_df160
theorem dJ1_charAt_3b067_0 : decode cJ1_charAt_3b067 0 = .ok (.iload_n 1, 1) := by decide +kernel
theorem dJ1_charAt_3b067_1 : decode cJ1_charAt_3b067 1 = .ok (.aload_n 0, 1) := by decide +kernel
theorem dJ1_charAt_3b067_2 : decode cJ1_charAt_3b067 2 = .ok (.arraylength, 1) := by decide +kernel
theorem dJ1_charAt_3b067_3 : decode cJ1_charAt_3b067 3 = .ok (.invokestatic 9, 3) := by decide +kernel
theorem dJ1_charAt_3b067_6 : decode cJ1_charAt_3b067 6 = .ok (.aload_n 0, 1) := by decide +kernel
theorem dJ1_charAt_3b067_7 : decode cJ1_charAt_3b067 7 = .ok (.iload_n 1, 1) := by decide +kernel
theorem dJ1_charAt_3b067_8 : decode cJ1_charAt_3b067 8 = .ok (.baload, 1) := by decide +kernel
theorem dJ1_charAt_3b067_9 : decode cJ1_charAt_3b067 9 = .ok (.sipush 255, 3) := by decide +kernel
theorem dJ1_charAt_3b067_12 : decode cJ1_charAt_3b067 12 = .ok (.iand, 1) := by decide +kernel
theorem dJ1_charAt_3b067_13 : decode cJ1_charAt_3b067 13 = .ok (.i2c, 1) := by decide +kernel
theorem dJ1_charAt_3b067_14 : decode cJ1_charAt_3b067 14 = .ok (.ireturn, 1) := by decide +kernel
set_option maxRecDepth 20000 in
theorem ggJ2_getChar_3b067_J2_length_9d52b : GoodIn wsJ2_getChar_3b067 wsJ2_length_9d52b := goodIn_r _ [7] (by decide +kernel) (by decide +kernel)
set_option maxRecDepth 20000 in
theorem gJ2_getChar_3b067_J2_length_9d52b : GoodIn wsJ2_getChar_3b067 (va_wsS RJ2 48 yJ2_length_9d52b wsJ2_length_9d52b) := goodIn_app (goodIn_of _ (by decide +kernel)) ggJ2_getChar_3b067_J2_length_9d52b
theorem dJ2_getChar_3b067_0 : decode cJ2_getChar_3b067 0 = .ok (.getstatic 44, 3) := by decide +kernel
theorem dJ2_getChar_3b067_3 : decode cJ2_getChar_3b067 3 = .ok (.ifCond .ne 25, 3) := by decide +kernel
theorem dJ2_getChar_3b067_6 : decode cJ2_getChar_3b067 6 = .ok (.iload_n 1, 1) := by decide +kernel
theorem dJ2_getChar_3b067_7 : decode cJ2_getChar_3b067 7 = .ok (.ifCond .lt 11, 3) := by decide +kernel
theorem dJ2_getChar_3b067_10 : decode cJ2_getChar_3b067 10 = .ok (.iload_n 1, 1) := by decide +kernel
theorem dJ2_getChar_3b067_11 : decode cJ2_getChar_3b067 11 = .ok (.aload_n 0, 1) := by decide +kernel
theorem dJ2_getChar_3b067_12 : decode cJ2_getChar_3b067 12 = .ok (.invokestatic 48, 3) := by decide +kernel
theorem dJ2_getChar_3b067_15 : decode cJ2_getChar_3b067 15 = .ok (.if_icmp .lt 13, 3) := by decide +kernel
theorem dJ2_getChar_3b067_18 : decode cJ2_getChar_3b067 18 = .ok (.new 52, 3) := by decide +kernel
theorem dJ2_getChar_3b067_21 : decode cJ2_getChar_3b067 21 = .ok (.dup, 1) := by decide +kernel
theorem dJ2_getChar_3b067_22 : decode cJ2_getChar_3b067 22 = .ok (.ldc 54, 2) := by decide +kernel
theorem dJ2_getChar_3b067_24 : decode cJ2_getChar_3b067 24 = .ok (.invokespecial 56, 3) := by decide +kernel
theorem dJ2_getChar_3b067_27 : decode cJ2_getChar_3b067 27 = .ok (.athrow, 1) := by decide +kernel
theorem dJ2_getChar_3b067_28 : decode cJ2_getChar_3b067 28 = .ok (.iload_n 1, 1) := by decide +kernel
theorem dJ2_getChar_3b067_29 : decode cJ2_getChar_3b067 29 = .ok (.iconst 1, 1) := by decide +kernel
theorem dJ2_getChar_3b067_30 : decode cJ2_getChar_3b067 30 = .ok (.ishl, 1) := by decide +kernel
theorem dJ2_getChar_3b067_31 : decode cJ2_getChar_3b067 31 = .ok (.istore_n 1, 1) := by decide +kernel
theorem dJ2_getChar_3b067_32 : decode cJ2_getChar_3b067 32 = .ok (.aload_n 0, 1) := by decide +kernel
theorem dJ2_getChar_3b067_33 : decode cJ2_getChar_3b067 33 = .ok (.iload_n 1, 1) := by decide +kernel
theorem dJ2_getChar_3b067_34 : decode cJ2_getChar_3b067 34 = .ok (.iinc 1 1, 3) := by decide +kernel
theorem dJ2_getChar_3b067_37 : decode cJ2_getChar_3b067 37 = .ok (.baload, 1) := by decide +kernel
theorem dJ2_getChar_3b067_38 : decode cJ2_getChar_3b067 38 = .ok (.sipush 255, 3) := by decide +kernel
theorem dJ2_getChar_3b067_41 : decode cJ2_getChar_3b067 41 = .ok (.iand, 1) := by decide +kernel
theorem dJ2_getChar_3b067_42 : decode cJ2_getChar_3b067 42 = .ok (.getstatic 59, 3) := by decide +kernel
theorem dJ2_getChar_3b067_45 : decode cJ2_getChar_3b067 45 = .ok (.ishl, 1) := by decide +kernel
theorem dJ2_getChar_3b067_46 : decode cJ2_getChar_3b067 46 = .ok (.aload_n 0, 1) := by decide +kernel
theorem dJ2_getChar_3b067_47 : decode cJ2_getChar_3b067 47 = .ok (.iload_n 1, 1) := by decide +kernel
theorem dJ2_getChar_3b067_48 : decode cJ2_getChar_3b067 48 = .ok (.baload, 1) := by decide +kernel
theorem dJ2_getChar_3b067_49 : decode cJ2_getChar_3b067 49 = .ok (.sipush 255, 3) := by decide +kernel
theorem dJ2_getChar_3b067_52 : decode cJ2_getChar_3b067 52 = .ok (.iand, 1) := by decide +kernel
theorem dJ2_getChar_3b067_53 : decode cJ2_getChar_3b067 53 = .ok (.getstatic 63, 3) := by decide +kernel
theorem dJ2_getChar_3b067_56 : decode cJ2_getChar_3b067 56 = .ok (.ishl, 1) := by decide +kernel
theorem dJ2_getChar_3b067_57 : decode cJ2_getChar_3b067 57 = .ok (.ior, 1) := by decide +kernel
theorem dJ2_getChar_3b067_58 : decode cJ2_getChar_3b067 58 = .ok (.i2c, 1) := by decide +kernel
theorem dJ2_getChar_3b067_59 : decode cJ2_getChar_3b067 59 = .ok (.ireturn, 1) := by decide +kernel
theorem dJ2_length_9d52b_0 : decode cJ2_length_9d52b 0 = .ok (.aload_n 0, 1) := by decide +kernel
theorem dJ2_length_9d52b_1 : decode cJ2_length_9d52b 1 = .ok (.arraylength, 1) := by decide +kernel
theorem dJ2_length_9d52b_2 : decode cJ2_length_9d52b 2 = .ok (.iconst 1, 1) := by decide +kernel
theorem dJ2_length_9d52b_3 : decode cJ2_length_9d52b 3 = .ok (.ishr, 1) := by decide +kernel
theorem dJ2_length_9d52b_4 : decode cJ2_length_9d52b 4 = .ok (.ireturn, 1) := by decide +kernel
set_option maxRecDepth 20000 in
theorem ggJ2_charAt_3b067_J2_checkIndex_2214a : GoodIn wsJ2_charAt_3b067 wsJ2_checkIndex_2214a := goodIn_r _ [4, 5, 6, 3, 7, 8, 9, 10, 11, 12, 13, 14, 15, 16] (by decide +kernel) (by decide +kernel)
set_option maxRecDepth 20000 in
theorem gJ2_charAt_3b067_J2_checkIndex_2214a : GoodIn wsJ2_charAt_3b067 (va_wsS RJ2 67 yJ2_checkIndex_2214a wsJ2_checkIndex_2214a) := goodIn_app (goodIn_of _ (by decide +kernel)) ggJ2_charAt_3b067_J2_checkIndex_2214a
set_option maxRecDepth 20000 in
theorem ggJ2_charAt_3b067_J2_getChar_3b067 : GoodIn wsJ2_charAt_3b067 wsJ2_getChar_3b067 := goodIn_r _ [19, 20, 21, 22, 5, 6, 3, 7] (by decide +kernel) (by decide +kernel)
set_option maxRecDepth 20000 in
theorem gJ2_charAt_3b067_J2_getChar_3b067 : GoodIn wsJ2_charAt_3b067 (va_wsS RJ2 71 yJ2_getChar_3b067 wsJ2_getChar_3b067) := goodIn_app (goodIn_of _ (by decide +kernel)) ggJ2_charAt_3b067_J2_getChar_3b067
theorem dJ2_charAt_3b067_0 : decode cJ2_charAt_3b067 0 = .ok (.iload_n 1, 1) := by decide +kernel
theorem dJ2_charAt_3b067_1 : decode cJ2_charAt_3b067 1 = .ok (.aload_n 0, 1) := by decide +kernel
theorem dJ2_charAt_3b067_2 : decode cJ2_charAt_3b067 2 = .ok (.invokestatic 67, 3) := by decide +kernel
theorem dJ2_charAt_3b067_5 : decode cJ2_charAt_3b067 5 = .ok (.aload_n 0, 1) := by decide +kernel
theorem dJ2_charAt_3b067_6 : decode cJ2_charAt_3b067 6 = .ok (.iload_n 1, 1) := by decide +kernel
theorem dJ2_charAt_3b067_7 : decode cJ2_charAt_3b067 7 = .ok (.invokestatic 71, 3) := by decide +kernel
theorem dJ2_charAt_3b067_10 : decode cJ2_charAt_3b067 10 = .ok (.ireturn, 1) := by decide +kernel
set_option maxRecDepth 20000 in
theorem ggJ2_checkIndex_2214a_J2_length_9d52b : GoodIn wsJ2_checkIndex_2214a wsJ2_length_9d52b := goodIn_r _ [4] (by decide +kernel) (by decide +kernel)
set_option maxRecDepth 20000 in
theorem gJ2_checkIndex_2214a_J2_length_9d52b : GoodIn wsJ2_checkIndex_2214a (va_wsS RJ2 48 yJ2_length_9d52b wsJ2_length_9d52b) := goodIn_app (goodIn_of _ (by decide +kernel)) ggJ2_checkIndex_2214a_J2_length_9d52b
set_option maxRecDepth 20000 in
theorem ggJ2_checkIndex_2214a_J0_checkIndex_df160 : GoodIn wsJ2_checkIndex_2214a wsJ0_checkIndex_df160 := goodIn_r _ [8, 9, 10, 11, 12, 13] (by decide +kernel) (by decide +kernel)
set_option maxRecDepth 20000 in
theorem gJ2_checkIndex_2214a_J0_checkIndex_df160 : GoodIn wsJ2_checkIndex_2214a (va_wsS RJ2 414 yJ0_checkIndex_df160 wsJ0_checkIndex_df160) := goodIn_app (goodIn_of _ (by decide +kernel)) ggJ2_checkIndex_2214a_J0_checkIndex_df160
theorem dJ2_checkIndex_2214a_0 : decode cJ2_checkIndex_2214a 0 = .ok (.iload_n 0, 1) := by decide +kernel
theorem dJ2_checkIndex_2214a_1 : decode cJ2_checkIndex_2214a 1 = .ok (.aload_n 1, 1) := by decide +kernel
theorem dJ2_checkIndex_2214a_2 : decode cJ2_checkIndex_2214a 2 = .ok (.invokestatic 48, 3) := by decide +kernel
theorem dJ2_checkIndex_2214a_5 : decode cJ2_checkIndex_2214a 5 = .ok (.invokestatic 414, 3) := by decide +kernel
theorem dJ2_checkIndex_2214a_8 : decode cJ2_checkIndex_2214a 8 = .ok (.return_, 1) := by decide +kernel
theorem dJ3_checkIndex_8e157_0 : decode cJ3_checkIndex_8e157 0 = .ok (.iload_n 0, 1) := by decide +kernel
theorem dJ3_checkIndex_8e157_1 : decode cJ3_checkIndex_8e157 1 = .ok (.ifCond .lt 8, 3) := by decide +kernel
theorem dJ3_checkIndex_8e157_4 : decode cJ3_checkIndex_8e157 4 = .ok (.iload_n 0, 1) := by decide +kernel
theorem dJ3_checkIndex_8e157_5 : decode cJ3_checkIndex_8e157 5 = .ok (.iload_n 1, 1) := by decide +kernel
theorem dJ3_checkIndex_8e157_6 : decode cJ3_checkIndex_8e157 6 = .ok (.if_icmp .lt 10, 3) := by decide +kernel
theorem dJ3_checkIndex_8e157_9 : decode cJ3_checkIndex_8e157 9 = .ok (.aload_n 2, 1) := by decide +kernel
theorem dJ3_checkIndex_8e157_10 : decode cJ3_checkIndex_8e157 10 = .ok (.iload_n 0, 1) := by decide +kernel
theorem dJ3_checkIndex_8e157_11 : decode cJ3_checkIndex_8e157 11 = .ok (.iload_n 1, 1) := by decide +kernel
theorem dJ3_checkIndex_8e157_12 : decode cJ3_checkIndex_8e157 12 = .ok (.invokestatic 95, 3) := by decide +kernel
theorem dJ3_checkIndex_8e157_15 : decode cJ3_checkIndex_8e157 15 = .ok (.athrow, 1) := by decide +kernel
theorem dJ3_checkIndex_8e157_16 : decode cJ3_checkIndex_8e157 16 = .ok (.iload_n 0, 1) := by decide +kernel
theorem dJ3_checkIndex_8e157_17 : decode cJ3_checkIndex_8e157 17 = .ok (.ireturn, 1) := by decide +kernel
theorem dL_cell_0 : decode cL_cell 0 = .ok (.ldc 7, 2) := by decide +kernel
theorem dL_cell_2 : decode cL_cell 2 = .ok (.iload_n 1, 1) := by decide +kernel
theorem dL_cell_3 : decode cL_cell 3 = .ok (.aload_n 0, 1) := by decide +kernel
theorem dL_cell_4 : decode cL_cell 4 = .ok (.arraylength, 1) := by decide +kernel
theorem dL_cell_5 : decode cL_cell 5 = .ok (.if_icmp .ge 9, 3) := by decide +kernel
theorem dL_cell_8 : decode cL_cell 8 = .ok (.aload_n 0, 1) := by decide +kernel
theorem dL_cell_9 : decode cL_cell 9 = .ok (.iload_n 1, 1) := by decide +kernel
theorem dL_cell_10 : decode cL_cell 10 = .ok (.iaload, 1) := by decide +kernel
theorem dL_cell_11 : decode cL_cell 11 = .ok (.goto 4, 3) := by decide +kernel
theorem dL_cell_14 : decode cL_cell 14 = .ok (.iconst 0, 1) := by decide +kernel
theorem dL_cell_15 : decode cL_cell 15 = .ok (.sipush 1009, 3) := by decide +kernel
theorem dL_cell_18 : decode cL_cell 18 = .ok (.iload_n 1, 1) := by decide +kernel
theorem dL_cell_19 : decode cL_cell 19 = .ok (.imul, 1) := by decide +kernel
theorem dL_cell_20 : decode cL_cell 20 = .ok (.iadd, 1) := by decide +kernel
theorem dL_cell_21 : decode cL_cell 21 = .ok (.imul, 1) := by decide +kernel
theorem dL_cell_22 : decode cL_cell 22 = .ok (.sipush 12345, 3) := by decide +kernel
theorem dL_cell_25 : decode cL_cell 25 = .ok (.iadd, 1) := by decide +kernel
theorem dL_cell_26 : decode cL_cell 26 = .ok (.istore_n 2, 1) := by decide +kernel
theorem dL_cell_27 : decode cL_cell 27 = .ok (.iload_n 2, 1) := by decide +kernel
theorem dL_cell_28 : decode cL_cell 28 = .ok (.iload_n 2, 1) := by decide +kernel
theorem dL_cell_29 : decode cL_cell 29 = .ok (.bipush 13, 2) := by decide +kernel
theorem dL_cell_31 : decode cL_cell 31 = .ok (.iushr, 1) := by decide +kernel
theorem dL_cell_32 : decode cL_cell 32 = .ok (.ixor, 1) := by decide +kernel
theorem dL_cell_33 : decode cL_cell 33 = .ok (.ldc 8, 2) := by decide +kernel
theorem dL_cell_35 : decode cL_cell 35 = .ok (.imul, 1) := by decide +kernel
theorem dL_cell_36 : decode cL_cell 36 = .ok (.istore_n 2, 1) := by decide +kernel
theorem dL_cell_37 : decode cL_cell 37 = .ok (.iload_n 2, 1) := by decide +kernel
theorem dL_cell_38 : decode cL_cell 38 = .ok (.iload_n 2, 1) := by decide +kernel
theorem dL_cell_39 : decode cL_cell 39 = .ok (.bipush 16, 2) := by decide +kernel
theorem dL_cell_41 : decode cL_cell 41 = .ok (.iushr, 1) := by decide +kernel
theorem dL_cell_42 : decode cL_cell 42 = .ok (.ixor, 1) := by decide +kernel
theorem dL_cell_43 : decode cL_cell 43 = .ok (.ireturn, 1) := by decide +kernel
set_option maxRecDepth 20000 in
theorem ggL_type_X9_type : GoodIn wsL_type wsX9_type := goodIn_ca (goodIn_ca (goodIn_ca (goodIn_r _ [9, 10, 11, 12, 13, 14, 15, 16, 8, 17, 18, 19, 20, 21, 22, 23, 24, 25, 26, 27, 28, 29, 30, 31, 32, 33, 34, 35, 36, 37, 38] (by decide +kernel) (by decide +kernel)) (goodIn_sub (fun _ h => List.mem_cons_of_mem _ (List.mem_append_left _ (List.mem_append_left _ (List.mem_append_right _ h)))) (by decide +kernel))) (goodIn_sub (fun _ h => List.mem_cons_of_mem _ (List.mem_append_left _ (List.mem_append_right _ h))) (by decide +kernel))) (goodIn_sub (fun _ h => List.mem_cons_of_mem _ (List.mem_append_right _ h)) (by decide +kernel))
set_option maxRecDepth 20000 in
theorem gL_type_X9_type : GoodIn wsL_type (wsV RL 9 RX9 yX9_type wsX9_type) := goodIn_app (goodIn_of _ (by decide +kernel)) ggL_type_X9_type
theorem dL_type_0 : decode cL_type 0 = .ok (.aload_n 0, 1) := by decide +kernel
theorem dL_type_1 : decode cL_type 1 = .ok (.iload_n 1, 1) := by decide +kernel
theorem dL_type_2 : decode cL_type 2 = .ok (.invokevirtual 9, 3) := by decide +kernel
theorem dL_type_5 : decode cL_type 5 = .ok (.ireturn, 1) := by decide +kernel
theorem dL_type_6 : decode cL_type 6 = .ok (.astore_n 2, 1) := by decide +kernel
theorem dL_type_7 : decode cL_type 7 = .ok (.ldc 17, 2) := by decide +kernel
theorem dL_type_9 : decode cL_type 9 = .ok (.ireturn, 1) := by decide +kernel
theorem dL_type_10 : decode cL_type 10 = .ok (.astore_n 2, 1) := by decide +kernel
theorem dL_type_11 : decode cL_type 11 = .ok (.ldc 20, 2) := by decide +kernel
theorem dL_type_13 : decode cL_type 13 = .ok (.ireturn, 1) := by decide +kernel
set_option maxRecDepth 20000 in
theorem ggL_word_X9_word : GoodIn wsL_word wsX9_word := goodIn_ca (goodIn_ca (goodIn_r _ [7, 8, 9, 10, 11, 12, 13, 14, 15, 16, 17, 18, 19, 20, 21, 22, 23, 24, 6, 25, 26, 27, 28, 29, 30, 31, 32, 33, 34, 35, 36, 37, 38, 39, 40, 41, 42, 43, 44, 45, 46, 47, 48, 49, 50, 51, 52, 53, 54] (by decide +kernel) (by decide +kernel)) (goodIn_sub (fun _ h => List.mem_cons_of_mem _ (List.mem_append_left _ (List.mem_append_right _ h))) (by decide +kernel))) (goodIn_sub (fun _ h => List.mem_cons_of_mem _ (List.mem_append_right _ h)) (by decide +kernel))
set_option maxRecDepth 20000 in
theorem gL_word_X9_word : GoodIn wsL_word (wsV RL 21 RX9 yX9_word wsX9_word) := goodIn_app (goodIn_of _ (by decide +kernel)) ggL_word_X9_word
theorem dL_word_0 : decode cL_word 0 = .ok (.aload_n 0, 1) := by decide +kernel
theorem dL_word_1 : decode cL_word 1 = .ok (.invokevirtual 21, 3) := by decide +kernel
theorem dL_word_4 : decode cL_word 4 = .ok (.ireturn, 1) := by decide +kernel
theorem dL_word_5 : decode cL_word 5 = .ok (.astore_n 1, 1) := by decide +kernel
theorem dL_word_6 : decode cL_word 6 = .ok (.ldc 17, 2) := by decide +kernel
theorem dL_word_8 : decode cL_word 8 = .ok (.ireturn, 1) := by decide +kernel
set_option maxRecDepth 20000 in
theorem ggL_length_X9_length : GoodIn wsL_length wsX9_length := goodIn_ca (goodIn_r _ [7, 8, 9, 10, 11, 6, 12, 13, 14, 15, 16, 17, 18, 19, 20, 21, 22, 23, 24, 25, 26, 27, 28, 29, 30, 31, 32, 33, 34, 35, 36] (by decide +kernel) (by decide +kernel)) (goodIn_sub (fun _ h => List.mem_cons_of_mem _ (List.mem_append_right _ h)) (by decide +kernel))
set_option maxRecDepth 20000 in
theorem gL_length_X9_length : GoodIn wsL_length (wsV RL 25 RX9 yX9_length wsX9_length) := goodIn_app (goodIn_of _ (by decide +kernel)) ggL_length_X9_length
theorem dL_length_0 : decode cL_length 0 = .ok (.aload_n 0, 1) := by decide +kernel
theorem dL_length_1 : decode cL_length 1 = .ok (.iload_n 1, 1) := by decide +kernel
theorem dL_length_2 : decode cL_length 2 = .ok (.invokevirtual 25, 3) := by decide +kernel
theorem dL_length_5 : decode cL_length 5 = .ok (.ireturn, 1) := by decide +kernel
theorem dL_length_6 : decode cL_length 6 = .ok (.astore_n 2, 1) := by decide +kernel
theorem dL_length_7 : decode cL_length 7 = .ok (.ldc 17, 2) := by decide +kernel
theorem dL_length_9 : decode cL_length 9 = .ok (.ireturn, 1) := by decide +kernel
set_option maxRecDepth 20000 in
theorem ggL_letter_X9_letter : GoodIn wsL_letter wsX9_letter := goodIn_ca (goodIn_ca (goodIn_ca (goodIn_r _ [9, 10, 11, 12, 13, 14, 15, 16, 17, 8, 18, 19, 20, 21, 22, 23, 24, 25, 26, 27, 28, 29, 30, 31, 32, 33, 34, 35, 36, 37, 38, 39, 40, 41, 42] (by decide +kernel) (by decide +kernel)) (goodIn_sub (fun _ h => List.mem_cons_of_mem _ (List.mem_append_left _ (List.mem_append_left _ (List.mem_append_right _ h)))) (by decide +kernel))) (goodIn_sub (fun _ h => List.mem_cons_of_mem _ (List.mem_append_left _ (List.mem_append_right _ h))) (by decide +kernel))) (goodIn_sub (fun _ h => List.mem_cons_of_mem _ (List.mem_append_right _ h)) (by decide +kernel))
set_option maxRecDepth 20000 in
theorem gL_letter_X9_letter : GoodIn wsL_letter (wsV RL 31 RX9 yX9_letter wsX9_letter) := goodIn_app (goodIn_of _ (by decide +kernel)) ggL_letter_X9_letter
theorem dL_letter_0 : decode cL_letter 0 = .ok (.aload_n 0, 1) := by decide +kernel
theorem dL_letter_1 : decode cL_letter 1 = .ok (.iload_n 1, 1) := by decide +kernel
theorem dL_letter_2 : decode cL_letter 2 = .ok (.iload_n 2, 1) := by decide +kernel
theorem dL_letter_3 : decode cL_letter 3 = .ok (.invokevirtual 31, 3) := by decide +kernel
theorem dL_letter_6 : decode cL_letter 6 = .ok (.ireturn, 1) := by decide +kernel
theorem dL_letter_7 : decode cL_letter 7 = .ok (.astore_n 3, 1) := by decide +kernel
theorem dL_letter_8 : decode cL_letter 8 = .ok (.ldc 17, 2) := by decide +kernel
theorem dL_letter_10 : decode cL_letter 10 = .ok (.ireturn, 1) := by decide +kernel
theorem dL_letter_11 : decode cL_letter 11 = .ok (.astore_n 3, 1) := by decide +kernel
theorem dL_letter_12 : decode cL_letter 12 = .ok (.ldc 20, 2) := by decide +kernel
theorem dL_letter_14 : decode cL_letter 14 = .ok (.ireturn, 1) := by decide +kernel
set_option maxRecDepth 20000 in
theorem ggL_compare_X9_compare : GoodIn wsL_compare wsX9_compare := goodIn_ca (goodIn_ca (goodIn_r _ [7, 8, 9, 10, 6, 11, 12, 13, 14, 15, 16, 17, 18, 19, 20, 21, 22, 23, 24, 25, 26, 27, 28, 29, 30, 31, 32, 33, 34, 35, 36, 37, 38, 39, 40, 41, 42] (by decide +kernel) (by decide +kernel)) (goodIn_sub (fun _ h => List.mem_cons_of_mem _ (List.mem_append_left _ (List.mem_append_right _ h))) (by decide +kernel))) (goodIn_sub (fun _ h => List.mem_cons_of_mem _ (List.mem_append_right _ h)) (by decide +kernel))
set_option maxRecDepth 20000 in
theorem gL_compare_X9_compare : GoodIn wsL_compare (wsV RL 37 RX9 yX9_compare wsX9_compare) := goodIn_app (goodIn_of _ (by decide +kernel)) ggL_compare_X9_compare
theorem dL_compare_0 : decode cL_compare 0 = .ok (.aload_n 0, 1) := by decide +kernel
theorem dL_compare_1 : decode cL_compare 1 = .ok (.iload_n 1, 1) := by decide +kernel
theorem dL_compare_2 : decode cL_compare 2 = .ok (.iload_n 2, 1) := by decide +kernel
theorem dL_compare_3 : decode cL_compare 3 = .ok (.invokevirtual 37, 3) := by decide +kernel
theorem dL_compare_6 : decode cL_compare 6 = .ok (.ireturn, 1) := by decide +kernel
theorem dL_compare_7 : decode cL_compare 7 = .ok (.astore_n 3, 1) := by decide +kernel
theorem dL_compare_8 : decode cL_compare 8 = .ok (.ldc 17, 2) := by decide +kernel
theorem dL_compare_10 : decode cL_compare 10 = .ok (.ireturn, 1) := by decide +kernel
set_option maxRecDepth 20000 in
theorem ggL_product_X9_product : GoodIn wsL_product wsX9_product := goodIn_ca (goodIn_ca (goodIn_ca (goodIn_r _ [9, 10, 11, 12, 13, 8, 14, 15, 16, 17, 18, 19, 20, 21, 22, 23, 24, 25, 26, 27, 28, 29, 30, 31, 32, 33, 34, 35, 36, 37, 38, 39, 40, 41, 42, 43, 44, 45, 46, 47, 48, 49, 50, 51, 52, 53, 54, 55, 56, 57, 58, 59, 60, 61, 62, 63, 64, 65, 66, 67] (by decide +kernel) (by decide +kernel)) (goodIn_sub (fun _ h => List.mem_cons_of_mem _ (List.mem_append_left _ (List.mem_append_left _ (List.mem_append_right _ h)))) (by decide +kernel))) (goodIn_sub (fun _ h => List.mem_cons_of_mem _ (List.mem_append_left _ (List.mem_append_right _ h))) (by decide +kernel))) (goodIn_sub (fun _ h => List.mem_cons_of_mem _ (List.mem_append_right _ h)) (by decide +kernel))
set_option maxRecDepth 20000 in
theorem gL_product_X9_product : GoodIn wsL_product (wsV RL 41 RX9 yX9_product wsX9_product) := goodIn_app (goodIn_of _ (by decide +kernel)) ggL_product_X9_product
theorem dL_product_0 : decode cL_product 0 = .ok (.aload_n 0, 1) := by decide +kernel
theorem dL_product_1 : decode cL_product 1 = .ok (.iload_n 1, 1) := by decide +kernel
theorem dL_product_2 : decode cL_product 2 = .ok (.iload_n 2, 1) := by decide +kernel
theorem dL_product_3 : decode cL_product 3 = .ok (.invokevirtual 41, 3) := by decide +kernel
theorem dL_product_6 : decode cL_product 6 = .ok (.ireturn, 1) := by decide +kernel
theorem dL_product_7 : decode cL_product 7 = .ok (.astore_n 3, 1) := by decide +kernel
theorem dL_product_8 : decode cL_product 8 = .ok (.ldc 17, 2) := by decide +kernel
theorem dL_product_10 : decode cL_product 10 = .ok (.ireturn, 1) := by decide +kernel
theorem dL_product_11 : decode cL_product 11 = .ok (.astore_n 3, 1) := by decide +kernel
theorem dL_product_12 : decode cL_product 12 = .ok (.ldc 20, 2) := by decide +kernel
theorem dL_product_14 : decode cL_product 14 = .ok (.ireturn, 1) := by decide +kernel
set_option maxRecDepth 20000 in
theorem ggL_inverse_X9_inverse : GoodIn wsL_inverse wsX9_inverse := goodIn_ca (goodIn_ca (goodIn_ca (goodIn_r _ [9, 10, 11, 12, 13, 8, 14, 15, 16, 17, 18, 19, 20, 21, 22, 23, 24, 25, 26, 27, 28, 29, 30, 31, 32, 33, 34, 35, 36, 37, 38, 39, 40, 41, 42, 43, 44, 45, 46, 47, 48, 49, 50, 51, 52, 53, 54, 55, 56, 57, 58, 59, 60, 61, 62, 63, 64] (by decide +kernel) (by decide +kernel)) (goodIn_sub (fun _ h => List.mem_cons_of_mem _ (List.mem_append_left _ (List.mem_append_left _ (List.mem_append_right _ h)))) (by decide +kernel))) (goodIn_sub (fun _ h => List.mem_cons_of_mem _ (List.mem_append_left _ (List.mem_append_right _ h))) (by decide +kernel))) (goodIn_sub (fun _ h => List.mem_cons_of_mem _ (List.mem_append_right _ h)) (by decide +kernel))
set_option maxRecDepth 20000 in
theorem gL_inverse_X9_inverse : GoodIn wsL_inverse (wsV RL 44 RX9 yX9_inverse wsX9_inverse) := goodIn_app (goodIn_of _ (by decide +kernel)) ggL_inverse_X9_inverse
theorem dL_inverse_0 : decode cL_inverse 0 = .ok (.aload_n 0, 1) := by decide +kernel
theorem dL_inverse_1 : decode cL_inverse 1 = .ok (.iload_n 1, 1) := by decide +kernel
theorem dL_inverse_2 : decode cL_inverse 2 = .ok (.invokevirtual 44, 3) := by decide +kernel
theorem dL_inverse_5 : decode cL_inverse 5 = .ok (.ireturn, 1) := by decide +kernel
theorem dL_inverse_6 : decode cL_inverse 6 = .ok (.astore_n 2, 1) := by decide +kernel
theorem dL_inverse_7 : decode cL_inverse 7 = .ok (.ldc 17, 2) := by decide +kernel
theorem dL_inverse_9 : decode cL_inverse 9 = .ok (.ireturn, 1) := by decide +kernel
theorem dL_inverse_10 : decode cL_inverse 10 = .ok (.astore_n 2, 1) := by decide +kernel
theorem dL_inverse_11 : decode cL_inverse 11 = .ok (.ldc 20, 2) := by decide +kernel
theorem dL_inverse_13 : decode cL_inverse 13 = .ok (.ireturn, 1) := by decide +kernel
set_option maxRecDepth 20000 in
theorem ggL_power_X9_power : GoodIn wsL_power wsX9_power := goodIn_ca (goodIn_ca (goodIn_ca (goodIn_ca (goodIn_r _ [11, 12, 13, 14, 15, 16, 17, 10, 18, 19, 20, 21, 22, 23, 24, 25, 26, 27, 28, 29, 30, 31, 32, 33, 34, 35, 36, 37, 38, 39, 40, 41, 42, 43, 44, 45, 46, 47, 48, 49, 50, 51, 52, 53, 54, 55, 56, 57, 58, 59, 60, 61, 62, 63, 64, 65, 66, 67, 68, 69, 70, 71, 72] (by decide +kernel) (by decide +kernel)) (goodIn_sub (fun _ h => List.mem_cons_of_mem _ (List.mem_append_left _ (List.mem_append_left _ (List.mem_append_left _ (List.mem_append_right _ h))))) (by decide +kernel))) (goodIn_sub (fun _ h => List.mem_cons_of_mem _ (List.mem_append_left _ (List.mem_append_left _ (List.mem_append_right _ h)))) (by decide +kernel))) (goodIn_sub (fun _ h => List.mem_cons_of_mem _ (List.mem_append_left _ (List.mem_append_right _ h))) (by decide +kernel))) (goodIn_sub (fun _ h => List.mem_cons_of_mem _ (List.mem_append_right _ h)) (by decide +kernel))
set_option maxRecDepth 20000 in
theorem gL_power_X9_power : GoodIn wsL_power (wsV RL 47 RX9 yX9_power wsX9_power) := goodIn_app (goodIn_of _ (by decide +kernel)) ggL_power_X9_power
theorem dL_power_0 : decode cL_power 0 = .ok (.aload_n 0, 1) := by decide +kernel
theorem dL_power_1 : decode cL_power 1 = .ok (.iload_n 1, 1) := by decide +kernel
theorem dL_power_2 : decode cL_power 2 = .ok (.iload_n 2, 1) := by decide +kernel
theorem dL_power_3 : decode cL_power 3 = .ok (.invokevirtual 47, 3) := by decide +kernel
theorem dL_power_6 : decode cL_power 6 = .ok (.ireturn, 1) := by decide +kernel
theorem dL_power_7 : decode cL_power 7 = .ok (.astore_n 3, 1) := by decide +kernel
theorem dL_power_8 : decode cL_power 8 = .ok (.ldc 17, 2) := by decide +kernel
theorem dL_power_10 : decode cL_power 10 = .ok (.ireturn, 1) := by decide +kernel
theorem dL_power_11 : decode cL_power 11 = .ok (.astore_n 3, 1) := by decide +kernel
theorem dL_power_12 : decode cL_power 12 = .ok (.ldc 20, 2) := by decide +kernel
theorem dL_power_14 : decode cL_power 14 = .ok (.ireturn, 1) := by decide +kernel
theorem dL_power_15 : decode cL_power 15 = .ok (.astore_n 3, 1) := by decide +kernel
theorem dL_power_16 : decode cL_power 16 = .ok (.ldc 50, 2) := by decide +kernel
theorem dL_power_18 : decode cL_power 18 = .ok (.ireturn, 1) := by decide +kernel
set_option maxRecDepth 20000 in
theorem ggL_core_X9_core : GoodIn wsL_core wsX9_core := goodIn_ca (goodIn_ca (goodIn_r _ [7, 8, 9, 10, 6, 11, 12, 13, 14, 15, 16, 17, 18, 19, 20, 21, 22, 23, 24, 25, 26, 27, 28, 29, 30, 31, 32, 33, 34, 35, 36, 37, 38, 39, 40, 41, 42, 43, 44, 45, 46] (by decide +kernel) (by decide +kernel)) (goodIn_sub (fun _ h => List.mem_cons_of_mem _ (List.mem_append_left _ (List.mem_append_right _ h))) (by decide +kernel))) (goodIn_sub (fun _ h => List.mem_cons_of_mem _ (List.mem_append_right _ h)) (by decide +kernel))
set_option maxRecDepth 20000 in
theorem gL_core_X9_core : GoodIn wsL_core (wsV RL 51 RX9 yX9_core wsX9_core) := goodIn_app (goodIn_of _ (by decide +kernel)) ggL_core_X9_core
theorem dL_core_0 : decode cL_core 0 = .ok (.aload_n 0, 1) := by decide +kernel
theorem dL_core_1 : decode cL_core 1 = .ok (.iload_n 1, 1) := by decide +kernel
theorem dL_core_2 : decode cL_core 2 = .ok (.invokevirtual 51, 3) := by decide +kernel
theorem dL_core_5 : decode cL_core 5 = .ok (.ireturn, 1) := by decide +kernel
theorem dL_core_6 : decode cL_core 6 = .ok (.astore_n 2, 1) := by decide +kernel
theorem dL_core_7 : decode cL_core 7 = .ok (.ldc 17, 2) := by decide +kernel
theorem dL_core_9 : decode cL_core 9 = .ok (.ireturn, 1) := by decide +kernel
set_option maxRecDepth 20000 in
theorem ggL_exponent_X9_exponent : GoodIn wsL_exponent wsX9_exponent := goodIn_ca (goodIn_ca (goodIn_ca (goodIn_r _ [9, 10, 11, 12, 13, 14, 15, 8, 16, 17, 18, 19, 20, 21, 22, 23, 24, 25, 26, 27, 28, 29, 30, 31, 32, 33, 34, 35, 36, 37, 38, 39, 40, 41, 42, 43, 44, 45, 46, 47, 48, 49, 50, 51, 52, 53, 54, 55, 56, 57, 58, 59] (by decide +kernel) (by decide +kernel)) (goodIn_sub (fun _ h => List.mem_cons_of_mem _ (List.mem_append_left _ (List.mem_append_left _ (List.mem_append_right _ h)))) (by decide +kernel))) (goodIn_sub (fun _ h => List.mem_cons_of_mem _ (List.mem_append_left _ (List.mem_append_right _ h))) (by decide +kernel))) (goodIn_sub (fun _ h => List.mem_cons_of_mem _ (List.mem_append_right _ h)) (by decide +kernel))
set_option maxRecDepth 20000 in
theorem gL_exponent_X9_exponent : GoodIn wsL_exponent (wsV RL 54 RX9 yX9_exponent wsX9_exponent) := goodIn_app (goodIn_of _ (by decide +kernel)) ggL_exponent_X9_exponent
theorem dL_exponent_0 : decode cL_exponent 0 = .ok (.aload_n 0, 1) := by decide +kernel
theorem dL_exponent_1 : decode cL_exponent 1 = .ok (.iload_n 1, 1) := by decide +kernel
theorem dL_exponent_2 : decode cL_exponent 2 = .ok (.invokevirtual 54, 3) := by decide +kernel
theorem dL_exponent_5 : decode cL_exponent 5 = .ok (.ireturn, 1) := by decide +kernel
theorem dL_exponent_6 : decode cL_exponent 6 = .ok (.astore_n 2, 1) := by decide +kernel
theorem dL_exponent_7 : decode cL_exponent 7 = .ok (.ldc 17, 2) := by decide +kernel
theorem dL_exponent_9 : decode cL_exponent 9 = .ok (.ireturn, 1) := by decide +kernel
theorem dL_exponent_10 : decode cL_exponent 10 = .ok (.astore_n 2, 1) := by decide +kernel
theorem dL_exponent_11 : decode cL_exponent 11 = .ok (.ldc 20, 2) := by decide +kernel
theorem dL_exponent_13 : decode cL_exponent 13 = .ok (.ireturn, 1) := by decide +kernel
set_option maxRecDepth 20000 in
theorem ggL_sum_X9_sum : GoodIn wsL_sum wsX9_sum := goodIn_ca (goodIn_ca (goodIn_ca (goodIn_r _ [9, 10, 11, 12, 8, 13, 14, 15, 16, 17, 18, 19, 20, 21, 22, 23, 24, 25, 26, 27, 28, 29, 30, 31, 32, 33, 34, 35, 36, 37, 38, 39, 40, 41, 42, 43, 44, 45, 46, 47, 48, 49, 50, 51] (by decide +kernel) (by decide +kernel)) (goodIn_sub (fun _ h => List.mem_cons_of_mem _ (List.mem_append_left _ (List.mem_append_left _ (List.mem_append_right _ h)))) (by decide +kernel))) (goodIn_sub (fun _ h => List.mem_cons_of_mem _ (List.mem_append_left _ (List.mem_append_right _ h))) (by decide +kernel))) (goodIn_sub (fun _ h => List.mem_cons_of_mem _ (List.mem_append_right _ h)) (by decide +kernel))
set_option maxRecDepth 20000 in
theorem gL_sum_X9_sum : GoodIn wsL_sum (wsV RL 57 RX9 yX9_sum wsX9_sum) := goodIn_app (goodIn_of _ (by decide +kernel)) ggL_sum_X9_sum
theorem dL_sum_0 : decode cL_sum 0 = .ok (.aload_n 0, 1) := by decide +kernel
theorem dL_sum_1 : decode cL_sum 1 = .ok (.iload_n 1, 1) := by decide +kernel
theorem dL_sum_2 : decode cL_sum 2 = .ok (.iload_n 2, 1) := by decide +kernel
theorem dL_sum_3 : decode cL_sum 3 = .ok (.invokevirtual 57, 3) := by decide +kernel
theorem dL_sum_6 : decode cL_sum 6 = .ok (.ireturn, 1) := by decide +kernel
theorem dL_sum_7 : decode cL_sum 7 = .ok (.astore_n 3, 1) := by decide +kernel
theorem dL_sum_8 : decode cL_sum 8 = .ok (.ldc 17, 2) := by decide +kernel
theorem dL_sum_10 : decode cL_sum 10 = .ok (.ireturn, 1) := by decide +kernel
theorem dL_sum_11 : decode cL_sum 11 = .ok (.astore_n 3, 1) := by decide +kernel
theorem dL_sum_12 : decode cL_sum 12 = .ok (.ldc 20, 2) := by decide +kernel
theorem dL_sum_14 : decode cL_sum 14 = .ok (.ireturn, 1) := by decide +kernel
set_option maxRecDepth 20000 in
theorem ggL_conjugator_X9_conjugator : GoodIn wsL_conjugator wsX9_conjugator := goodIn_ca (goodIn_ca (goodIn_ca (goodIn_ca (goodIn_r _ [11, 12, 13, 14, 15, 16, 17, 18, 10, 19, 20, 21, 22, 23, 24, 25, 26, 27, 28, 29, 30, 31, 32, 33, 34, 35, 36, 37, 38, 39, 40, 41, 42, 43, 44, 45, 46, 47, 48, 49, 50, 51, 52, 53, 54, 55, 56, 57, 58, 59, 60, 61, 62, 63, 64, 65, 66, 67, 68, 69, 70, 71, 72, 73, 74, 75, 76, 77, 78, 79, 80, 81, 82, 83, 84, 85, 86, 87, 88, 89, 90, 91, 92, 93, 94, 95, 96, 97, 98, 99, 100, 101, 102, 103, 104, 105, 106] (by decide +kernel) (by decide +kernel)) (goodIn_sub (fun _ h => List.mem_cons_of_mem _ (List.mem_append_left _ (List.mem_append_left _ (List.mem_append_left _ (List.mem_append_right _ h))))) (by decide +kernel))) (goodIn_sub (fun _ h => List.mem_cons_of_mem _ (List.mem_append_left _ (List.mem_append_left _ (List.mem_append_right _ h)))) (by decide +kernel))) (goodIn_sub (fun _ h => List.mem_cons_of_mem _ (List.mem_append_left _ (List.mem_append_right _ h))) (by decide +kernel))) (goodIn_sub (fun _ h => List.mem_cons_of_mem _ (List.mem_append_right _ h)) (by decide +kernel))
set_option maxRecDepth 20000 in
theorem gL_conjugator_X9_conjugator : GoodIn wsL_conjugator (wsV RL 61 RX9 yX9_conjugator wsX9_conjugator) := goodIn_app (goodIn_of _ (by decide +kernel)) ggL_conjugator_X9_conjugator
theorem dL_conjugator_0 : decode cL_conjugator 0 = .ok (.aload_n 0, 1) := by decide +kernel
theorem dL_conjugator_1 : decode cL_conjugator 1 = .ok (.iload_n 1, 1) := by decide +kernel
theorem dL_conjugator_2 : decode cL_conjugator 2 = .ok (.iload_n 2, 1) := by decide +kernel
theorem dL_conjugator_3 : decode cL_conjugator 3 = .ok (.invokevirtual 61, 3) := by decide +kernel
theorem dL_conjugator_6 : decode cL_conjugator 6 = .ok (.ireturn, 1) := by decide +kernel
theorem dL_conjugator_7 : decode cL_conjugator 7 = .ok (.astore_n 3, 1) := by decide +kernel
theorem dL_conjugator_8 : decode cL_conjugator 8 = .ok (.ldc 17, 2) := by decide +kernel
theorem dL_conjugator_10 : decode cL_conjugator 10 = .ok (.ireturn, 1) := by decide +kernel
theorem dL_conjugator_11 : decode cL_conjugator 11 = .ok (.astore_n 3, 1) := by decide +kernel
theorem dL_conjugator_12 : decode cL_conjugator 12 = .ok (.ldc 20, 2) := by decide +kernel
theorem dL_conjugator_14 : decode cL_conjugator 14 = .ok (.ireturn, 1) := by decide +kernel
theorem dL_conjugator_15 : decode cL_conjugator 15 = .ok (.astore_n 3, 1) := by decide +kernel
theorem dL_conjugator_16 : decode cL_conjugator 16 = .ok (.ldc 50, 2) := by decide +kernel
theorem dL_conjugator_18 : decode cL_conjugator 18 = .ok (.ireturn, 1) := by decide +kernel
set_option maxRecDepth 20000 in
theorem ggL_commute_X9_commute : GoodIn wsL_commute wsX9_commute := goodIn_ca (goodIn_ca (goodIn_r _ [7, 8, 9, 10, 11, 12, 6, 13, 14, 15, 16, 17, 18, 19, 20, 21, 22, 23, 24, 25, 26, 27, 28, 29, 30, 31, 32, 33, 34, 35, 36, 37, 38, 39, 40, 41, 42, 43, 44, 45, 46, 47, 48, 49, 50, 51, 52, 53, 54, 55, 56, 57, 58, 59] (by decide +kernel) (by decide +kernel)) (goodIn_sub (fun _ h => List.mem_cons_of_mem _ (List.mem_append_left _ (List.mem_append_right _ h))) (by decide +kernel))) (goodIn_sub (fun _ h => List.mem_cons_of_mem _ (List.mem_append_right _ h)) (by decide +kernel))
set_option maxRecDepth 20000 in
theorem gL_commute_X9_commute : GoodIn wsL_commute (wsV RL 64 RX9 yX9_commute wsX9_commute) := goodIn_app (goodIn_of _ (by decide +kernel)) ggL_commute_X9_commute
theorem dL_commute_0 : decode cL_commute 0 = .ok (.aload_n 0, 1) := by decide +kernel
theorem dL_commute_1 : decode cL_commute 1 = .ok (.iload_n 1, 1) := by decide +kernel
theorem dL_commute_2 : decode cL_commute 2 = .ok (.iload_n 2, 1) := by decide +kernel
theorem dL_commute_3 : decode cL_commute 3 = .ok (.invokevirtual 64, 3) := by decide +kernel
theorem dL_commute_6 : decode cL_commute 6 = .ok (.ifCond .eq 7, 3) := by decide +kernel
theorem dL_commute_9 : decode cL_commute 9 = .ok (.iconst 1, 1) := by decide +kernel
theorem dL_commute_10 : decode cL_commute 10 = .ok (.goto 4, 3) := by decide +kernel
theorem dL_commute_13 : decode cL_commute 13 = .ok (.iconst 0, 1) := by decide +kernel
theorem dL_commute_14 : decode cL_commute 14 = .ok (.ireturn, 1) := by decide +kernel
theorem dL_commute_15 : decode cL_commute 15 = .ok (.astore_n 3, 1) := by decide +kernel
theorem dL_commute_16 : decode cL_commute 16 = .ok (.ldc 17, 2) := by decide +kernel
theorem dL_commute_18 : decode cL_commute 18 = .ok (.ireturn, 1) := by decide +kernel
set_option maxRecDepth 20000 in
theorem ggL_in_L_cell : GoodIn wsL_in wsL_cell := goodIn_ca (goodIn_r _ [5, 6, 7] (by decide +kernel) (by decide +kernel)) (goodIn_sub (fun _ h => List.mem_cons_of_mem _ (List.mem_append_right _ h)) (by decide +kernel))
set_option maxRecDepth 20000 in
theorem gL_in_L_cell : GoodIn wsL_in (va_wsS RL 68 yL_cell wsL_cell) := goodIn_app (goodIn_of _ (by decide +kernel)) ggL_in_L_cell
theorem dL_in_0 : decode cL_in 0 = .ok (.aload_n 0, 1) := by decide +kernel
theorem dL_in_1 : decode cL_in 1 = .ok (.iload_n 1, 1) := by decide +kernel
theorem dL_in_2 : decode cL_in 2 = .ok (.invokestatic 68, 3) := by decide +kernel
theorem dL_in_5 : decode cL_in 5 = .ok (.ldc 74, 2) := by decide +kernel
theorem dL_in_7 : decode cL_in 7 = .ok (.iand, 1) := by decide +kernel
theorem dL_in_8 : decode cL_in 8 = .ok (.iload_n 2, 1) := by decide +kernel
theorem dL_in_9 : decode cL_in 9 = .ok (.irem, 1) := by decide +kernel
theorem dL_in_10 : decode cL_in 10 = .ok (.ireturn, 1) := by decide +kernel
theorem dL_joined_0 : decode cL_joined 0 = .ok (.aload_n 0, 1) := by decide +kernel
theorem dL_joined_1 : decode cL_joined 1 = .ok (.arraylength, 1) := by decide +kernel
theorem dL_joined_2 : decode cL_joined 2 = .ok (.aload_n 1, 1) := by decide +kernel
theorem dL_joined_3 : decode cL_joined 3 = .ok (.arraylength, 1) := by decide +kernel
theorem dL_joined_4 : decode cL_joined 4 = .ok (.iadd, 1) := by decide +kernel
theorem dL_joined_5 : decode cL_joined 5 = .ok (.newarray .int, 2) := by decide +kernel
theorem dL_joined_7 : decode cL_joined 7 = .ok (.astore_n 2, 1) := by decide +kernel
theorem dL_joined_8 : decode cL_joined 8 = .ok (.iconst 0, 1) := by decide +kernel
theorem dL_joined_9 : decode cL_joined 9 = .ok (.istore_n 3, 1) := by decide +kernel
theorem dL_joined_10 : decode cL_joined 10 = .ok (.iconst 0, 1) := by decide +kernel
theorem dL_joined_11 : decode cL_joined 11 = .ok (.istore 4, 2) := by decide +kernel
theorem dL_joined_13 : decode cL_joined 13 = .ok (.iload 4, 2) := by decide +kernel
theorem dL_joined_15 : decode cL_joined 15 = .ok (.aload_n 2, 1) := by decide +kernel
theorem dL_joined_16 : decode cL_joined 16 = .ok (.arraylength, 1) := by decide +kernel
theorem dL_joined_17 : decode cL_joined 17 = .ok (.if_icmp .ge 62, 3) := by decide +kernel
theorem dL_joined_20 : decode cL_joined 20 = .ok (.iload 4, 2) := by decide +kernel
theorem dL_joined_22 : decode cL_joined 22 = .ok (.aload_n 0, 1) := by decide +kernel
theorem dL_joined_23 : decode cL_joined 23 = .ok (.arraylength, 1) := by decide +kernel
theorem dL_joined_24 : decode cL_joined 24 = .ok (.if_icmp .ge 10, 3) := by decide +kernel
theorem dL_joined_27 : decode cL_joined 27 = .ok (.aload_n 0, 1) := by decide +kernel
theorem dL_joined_28 : decode cL_joined 28 = .ok (.iload 4, 2) := by decide +kernel
theorem dL_joined_30 : decode cL_joined 30 = .ok (.iaload, 1) := by decide +kernel
theorem dL_joined_31 : decode cL_joined 31 = .ok (.goto 10, 3) := by decide +kernel
theorem dL_joined_34 : decode cL_joined 34 = .ok (.aload_n 1, 1) := by decide +kernel
theorem dL_joined_35 : decode cL_joined 35 = .ok (.iload 4, 2) := by decide +kernel
theorem dL_joined_37 : decode cL_joined 37 = .ok (.aload_n 0, 1) := by decide +kernel
theorem dL_joined_38 : decode cL_joined 38 = .ok (.arraylength, 1) := by decide +kernel
theorem dL_joined_39 : decode cL_joined 39 = .ok (.isub, 1) := by decide +kernel
theorem dL_joined_40 : decode cL_joined 40 = .ok (.iaload, 1) := by decide +kernel
theorem dL_joined_41 : decode cL_joined 41 = .ok (.istore 5, 2) := by decide +kernel
theorem dL_joined_43 : decode cL_joined 43 = .ok (.iload_n 3, 1) := by decide +kernel
theorem dL_joined_44 : decode cL_joined 44 = .ok (.ifCond .le 21, 3) := by decide +kernel
theorem dL_joined_47 : decode cL_joined 47 = .ok (.aload_n 2, 1) := by decide +kernel
theorem dL_joined_48 : decode cL_joined 48 = .ok (.iload_n 3, 1) := by decide +kernel
theorem dL_joined_49 : decode cL_joined 49 = .ok (.iconst 1, 1) := by decide +kernel
theorem dL_joined_50 : decode cL_joined 50 = .ok (.isub, 1) := by decide +kernel
theorem dL_joined_51 : decode cL_joined 51 = .ok (.iaload, 1) := by decide +kernel
theorem dL_joined_52 : decode cL_joined 52 = .ok (.iconst 1, 1) := by decide +kernel
theorem dL_joined_53 : decode cL_joined 53 = .ok (.ixor, 1) := by decide +kernel
theorem dL_joined_54 : decode cL_joined 54 = .ok (.iload 5, 2) := by decide +kernel
theorem dL_joined_56 : decode cL_joined 56 = .ok (.if_icmp .ne 9, 3) := by decide +kernel
theorem dL_joined_59 : decode cL_joined 59 = .ok (.iinc 3 (-1), 3) := by decide +kernel
theorem dL_joined_62 : decode cL_joined 62 = .ok (.goto 11, 3) := by decide +kernel
theorem dL_joined_65 : decode cL_joined 65 = .ok (.aload_n 2, 1) := by decide +kernel
theorem dL_joined_66 : decode cL_joined 66 = .ok (.iload_n 3, 1) := by decide +kernel
theorem dL_joined_67 : decode cL_joined 67 = .ok (.iload 5, 2) := by decide +kernel
theorem dL_joined_69 : decode cL_joined 69 = .ok (.iastore, 1) := by decide +kernel
theorem dL_joined_70 : decode cL_joined 70 = .ok (.iinc 3 1, 3) := by decide +kernel
theorem dL_joined_73 : decode cL_joined 73 = .ok (.iinc 4 1, 3) := by decide +kernel
theorem dL_joined_76 : decode cL_joined 76 = .ok (.goto (-63), 3) := by decide +kernel
theorem dL_joined_79 : decode cL_joined 79 = .ok (.iload_n 3, 1) := by decide +kernel
theorem dL_joined_80 : decode cL_joined 80 = .ok (.newarray .int, 2) := by decide +kernel
theorem dL_joined_82 : decode cL_joined 82 = .ok (.astore 4, 2) := by decide +kernel
theorem dL_joined_84 : decode cL_joined 84 = .ok (.iconst 0, 1) := by decide +kernel
theorem dL_joined_85 : decode cL_joined 85 = .ok (.istore 5, 2) := by decide +kernel
theorem dL_joined_87 : decode cL_joined 87 = .ok (.iload 5, 2) := by decide +kernel
theorem dL_joined_89 : decode cL_joined 89 = .ok (.iload_n 3, 1) := by decide +kernel
theorem dL_joined_90 : decode cL_joined 90 = .ok (.if_icmp .ge 18, 3) := by decide +kernel
theorem dL_joined_93 : decode cL_joined 93 = .ok (.aload 4, 2) := by decide +kernel
theorem dL_joined_95 : decode cL_joined 95 = .ok (.iload 5, 2) := by decide +kernel
theorem dL_joined_97 : decode cL_joined 97 = .ok (.aload_n 2, 1) := by decide +kernel
theorem dL_joined_98 : decode cL_joined 98 = .ok (.iload 5, 2) := by decide +kernel
theorem dL_joined_100 : decode cL_joined 100 = .ok (.iaload, 1) := by decide +kernel
theorem dL_joined_101 : decode cL_joined 101 = .ok (.iastore, 1) := by decide +kernel
theorem dL_joined_102 : decode cL_joined 102 = .ok (.iinc 5 1, 3) := by decide +kernel
theorem dL_joined_105 : decode cL_joined 105 = .ok (.goto (-18), 3) := by decide +kernel
theorem dL_joined_108 : decode cL_joined 108 = .ok (.aload 4, 2) := by decide +kernel
theorem dL_joined_110 : decode cL_joined 110 = .ok (.areturn, 1) := by decide +kernel
theorem dL_turned_0 : decode cL_turned 0 = .ok (.aload_n 0, 1) := by decide +kernel
theorem dL_turned_1 : decode cL_turned 1 = .ok (.arraylength, 1) := by decide +kernel
theorem dL_turned_2 : decode cL_turned 2 = .ok (.newarray .int, 2) := by decide +kernel
theorem dL_turned_4 : decode cL_turned 4 = .ok (.astore_n 1, 1) := by decide +kernel
theorem dL_turned_5 : decode cL_turned 5 = .ok (.iconst 0, 1) := by decide +kernel
theorem dL_turned_6 : decode cL_turned 6 = .ok (.istore_n 2, 1) := by decide +kernel
theorem dL_turned_7 : decode cL_turned 7 = .ok (.iload_n 2, 1) := by decide +kernel
theorem dL_turned_8 : decode cL_turned 8 = .ok (.aload_n 0, 1) := by decide +kernel
theorem dL_turned_9 : decode cL_turned 9 = .ok (.arraylength, 1) := by decide +kernel
theorem dL_turned_10 : decode cL_turned 10 = .ok (.if_icmp .ge 22, 3) := by decide +kernel
theorem dL_turned_13 : decode cL_turned 13 = .ok (.aload_n 1, 1) := by decide +kernel
theorem dL_turned_14 : decode cL_turned 14 = .ok (.iload_n 2, 1) := by decide +kernel
theorem dL_turned_15 : decode cL_turned 15 = .ok (.aload_n 0, 1) := by decide +kernel
theorem dL_turned_16 : decode cL_turned 16 = .ok (.aload_n 0, 1) := by decide +kernel
theorem dL_turned_17 : decode cL_turned 17 = .ok (.arraylength, 1) := by decide +kernel
theorem dL_turned_18 : decode cL_turned 18 = .ok (.iconst 1, 1) := by decide +kernel
theorem dL_turned_19 : decode cL_turned 19 = .ok (.isub, 1) := by decide +kernel
theorem dL_turned_20 : decode cL_turned 20 = .ok (.iload_n 2, 1) := by decide +kernel
theorem dL_turned_21 : decode cL_turned 21 = .ok (.isub, 1) := by decide +kernel
theorem dL_turned_22 : decode cL_turned 22 = .ok (.iaload, 1) := by decide +kernel
theorem dL_turned_23 : decode cL_turned 23 = .ok (.iconst 1, 1) := by decide +kernel
theorem dL_turned_24 : decode cL_turned 24 = .ok (.ixor, 1) := by decide +kernel
theorem dL_turned_25 : decode cL_turned 25 = .ok (.iastore, 1) := by decide +kernel
theorem dL_turned_26 : decode cL_turned 26 = .ok (.iinc 2 1, 3) := by decide +kernel
theorem dL_turned_29 : decode cL_turned 29 = .ok (.goto (-22), 3) := by decide +kernel
theorem dL_turned_32 : decode cL_turned 32 = .ok (.aload_n 1, 1) := by decide +kernel
theorem dL_turned_33 : decode cL_turned 33 = .ok (.areturn, 1) := by decide +kernel
set_option maxRecDepth 20000 in
theorem ggL_some_L_in : GoodIn wsL_some wsL_in := goodIn_ca (goodIn_r _ [5, 6, 7, 8, 4, 9, 10, 11] (by decide +kernel) (by decide +kernel)) (goodIn_sub (fun _ h => List.mem_cons_of_mem _ (List.mem_append_right _ h)) (by decide +kernel))
set_option maxRecDepth 20000 in
theorem gL_some_L_in : GoodIn wsL_some (va_wsS RL 75 yL_in wsL_in) := goodIn_app (goodIn_of _ (by decide +kernel)) ggL_some_L_in
set_option maxRecDepth 20000 in
theorem ggL_some_L_joined : GoodIn wsL_some wsL_joined := goodIn_ca (goodIn_r _ [14, 1] (by decide +kernel) (by decide +kernel)) (goodIn_sub (fun _ h => List.mem_cons_of_mem _ (List.mem_append_right _ h)) (by decide +kernel))
set_option maxRecDepth 20000 in
theorem gL_some_L_joined : GoodIn wsL_some (va_wsS RL 79 yL_joined wsL_joined) := goodIn_app (goodIn_of _ (by decide +kernel)) ggL_some_L_joined
theorem dL_some_0 : decode cL_some 0 = .ok (.iload_n 2, 1) := by decide +kernel
theorem dL_some_1 : decode cL_some 1 = .ok (.newarray .int, 2) := by decide +kernel
theorem dL_some_3 : decode cL_some 3 = .ok (.astore_n 3, 1) := by decide +kernel
theorem dL_some_4 : decode cL_some 4 = .ok (.iconst 0, 1) := by decide +kernel
theorem dL_some_5 : decode cL_some 5 = .ok (.istore 4, 2) := by decide +kernel
theorem dL_some_7 : decode cL_some 7 = .ok (.iload 4, 2) := by decide +kernel
theorem dL_some_9 : decode cL_some 9 = .ok (.iload_n 2, 1) := by decide +kernel
theorem dL_some_10 : decode cL_some 10 = .ok (.if_icmp .ge 23, 3) := by decide +kernel
theorem dL_some_13 : decode cL_some 13 = .ok (.aload_n 3, 1) := by decide +kernel
theorem dL_some_14 : decode cL_some 14 = .ok (.iload 4, 2) := by decide +kernel
theorem dL_some_16 : decode cL_some 16 = .ok (.aload_n 0, 1) := by decide +kernel
theorem dL_some_17 : decode cL_some 17 = .ok (.iload_n 1, 1) := by decide +kernel
theorem dL_some_18 : decode cL_some 18 = .ok (.iload 4, 2) := by decide +kernel
theorem dL_some_20 : decode cL_some 20 = .ok (.iadd, 1) := by decide +kernel
theorem dL_some_21 : decode cL_some 21 = .ok (.bipush 6, 2) := by decide +kernel
theorem dL_some_23 : decode cL_some 23 = .ok (.invokestatic 75, 3) := by decide +kernel
theorem dL_some_26 : decode cL_some 26 = .ok (.iastore, 1) := by decide +kernel
theorem dL_some_27 : decode cL_some 27 = .ok (.iinc 4 1, 3) := by decide +kernel
theorem dL_some_30 : decode cL_some 30 = .ok (.goto (-23), 3) := by decide +kernel
theorem dL_some_33 : decode cL_some 33 = .ok (.aload_n 3, 1) := by decide +kernel
theorem dL_some_34 : decode cL_some 34 = .ok (.iconst 0, 1) := by decide +kernel
theorem dL_some_35 : decode cL_some 35 = .ok (.newarray .int, 2) := by decide +kernel
theorem dL_some_37 : decode cL_some 37 = .ok (.invokestatic 79, 3) := by decide +kernel
theorem dL_some_40 : decode cL_some 40 = .ok (.areturn, 1) := by decide +kernel
set_option maxRecDepth 20000 in
theorem ggL_told_J0_charAt_5068e : GoodIn wsL_told wsJ0_charAt_5068e := goodIn_r _ [5, 6, 7, 8, 9, 4, 10, 11, 12, 13, 14, 15, 16, 17, 18, 19, 20, 21, 22, 23, 24, 25, 26, 27, 28, 29, 30, 31, 32, 33, 34, 35, 36, 37, 38, 39, 40, 41, 96, 97] (by decide +kernel) (by decide +kernel)
set_option maxRecDepth 20000 in
theorem gL_told_J0_charAt_5068e : GoodIn wsL_told (wsV RL 85 RJ0 yJ0_charAt_5068e wsJ0_charAt_5068e) := goodIn_app (goodIn_of _ (by decide +kernel)) ggL_told_J0_charAt_5068e
set_option maxRecDepth 20000 in
theorem ggL_told_L_type : GoodIn wsL_told wsL_type := goodIn_ca (goodIn_ca (goodIn_ca (goodIn_r _ [45, 46, 47, 48, 49, 50, 51, 52, 53, 54, 55, 56, 57, 58, 59, 60, 61, 62, 63, 64, 65, 98, 99, 100, 101, 102, 103, 104, 105, 106, 107, 108, 109, 110, 111, 112, 113, 114, 115] (by decide +kernel) (by decide +kernel)) (goodIn_sub (fun _ h => List.mem_cons_of_mem _ (List.mem_append_left _ (List.mem_append_right _ h))) (by decide +kernel))) (goodIn_sub (fun _ h => List.mem_cons_of_mem _ (List.mem_append_left _ (List.mem_append_left _ (List.mem_append_right _ h)))) (by decide +kernel))) (goodIn_sub (fun _ h => List.mem_cons_of_mem _ (List.mem_append_right _ h)) (by decide +kernel))
set_option maxRecDepth 20000 in
theorem gL_told_L_type : GoodIn wsL_told (va_wsS RL 91 yL_type wsL_type) := goodIn_app (goodIn_of _ (by decide +kernel)) ggL_told_L_type
set_option maxRecDepth 20000 in
theorem ggL_told_L_word : GoodIn wsL_told wsL_word := goodIn_ca (goodIn_ca (goodIn_r _ [68, 47, 48, 69, 70, 71, 53, 72, 73, 57, 58, 74, 75, 76, 77, 78, 79, 80, 81, 82, 83, 84, 85, 86, 87, 88, 55, 56, 89, 90, 91, 92, 93, 94, 95, 98, 99, 100, 101, 102, 103, 104, 105, 106, 107, 108, 109, 110, 111, 112, 113, 114, 115, 116, 117] (by decide +kernel) (by decide +kernel)) (goodIn_sub (fun _ h => List.mem_cons_of_mem _ (List.mem_append_left _ (List.mem_append_left _ (List.mem_append_right _ h)))) (by decide +kernel))) (goodIn_sub (fun _ h => List.mem_cons_of_mem _ (List.mem_append_left _ (List.mem_append_right _ h))) (by decide +kernel))
set_option maxRecDepth 20000 in
theorem gL_told_L_word : GoodIn wsL_told (va_wsS RL 94 yL_word wsL_word) := goodIn_app (goodIn_of _ (by decide +kernel)) ggL_told_L_word
theorem dL_told_0 : decode cL_told 0 = .ok (.iconst 1, 1) := by decide +kernel
theorem dL_told_1 : decode cL_told 1 = .ok (.istore_n 2, 1) := by decide +kernel
theorem dL_told_2 : decode cL_told 2 = .ok (.iconst 0, 1) := by decide +kernel
theorem dL_told_3 : decode cL_told 3 = .ok (.istore_n 3, 1) := by decide +kernel
theorem dL_told_4 : decode cL_told 4 = .ok (.iload_n 3, 1) := by decide +kernel
theorem dL_told_5 : decode cL_told 5 = .ok (.aload_n 1, 1) := by decide +kernel
theorem dL_told_6 : decode cL_told 6 = .ok (.arraylength, 1) := by decide +kernel
theorem dL_told_7 : decode cL_told 7 = .ok (.if_icmp .ge 35, 3) := by decide +kernel
theorem dL_told_10 : decode cL_told 10 = .ok (.iload_n 2, 1) := by decide +kernel
theorem dL_told_11 : decode cL_told 11 = .ok (.aload_n 0, 1) := by decide +kernel
theorem dL_told_12 : decode cL_told 12 = .ok (.ldc 83, 2) := by decide +kernel
theorem dL_told_14 : decode cL_told 14 = .ok (.aload_n 1, 1) := by decide +kernel
theorem dL_told_15 : decode cL_told 15 = .ok (.iload_n 3, 1) := by decide +kernel
theorem dL_told_16 : decode cL_told 16 = .ok (.iaload, 1) := by decide +kernel
theorem dL_told_17 : decode cL_told 17 = .ok (.invokevirtual 85, 3) := by decide +kernel
theorem dL_told_20 : decode cL_told 20 = .ok (.invokestatic 91, 3) := by decide +kernel
theorem dL_told_23 : decode cL_told 23 = .ok (.iload_n 3, 1) := by decide +kernel
theorem dL_told_24 : decode cL_told 24 = .ok (.iconst 1, 1) := by decide +kernel
theorem dL_told_25 : decode cL_told 25 = .ok (.iadd, 1) := by decide +kernel
theorem dL_told_26 : decode cL_told 26 = .ok (.if_icmp .ne 7, 3) := by decide +kernel
theorem dL_told_29 : decode cL_told 29 = .ok (.iconst 1, 1) := by decide +kernel
theorem dL_told_30 : decode cL_told 30 = .ok (.goto 4, 3) := by decide +kernel
theorem dL_told_33 : decode cL_told 33 = .ok (.iconst 0, 1) := by decide +kernel
theorem dL_told_34 : decode cL_told 34 = .ok (.iand, 1) := by decide +kernel
theorem dL_told_35 : decode cL_told 35 = .ok (.istore_n 2, 1) := by decide +kernel
theorem dL_told_36 : decode cL_told 36 = .ok (.iinc 3 1, 3) := by decide +kernel
theorem dL_told_39 : decode cL_told 39 = .ok (.goto (-35), 3) := by decide +kernel
theorem dL_told_42 : decode cL_told 42 = .ok (.iload_n 2, 1) := by decide +kernel
theorem dL_told_43 : decode cL_told 43 = .ok (.ifCond .eq 10, 3) := by decide +kernel
theorem dL_told_46 : decode cL_told 46 = .ok (.aload_n 0, 1) := by decide +kernel
theorem dL_told_47 : decode cL_told 47 = .ok (.invokestatic 94, 3) := by decide +kernel
theorem dL_told_50 : decode cL_told 50 = .ok (.goto 4, 3) := by decide +kernel
theorem dL_told_53 : decode cL_told 53 = .ok (.iconst (-1), 1) := by decide +kernel
theorem dL_told_54 : decode cL_told 54 = .ok (.ireturn, 1) := by decide +kernel
set_option maxRecDepth 20000 in
theorem ggL_isRow_L_length : GoodIn wsL_isRow wsL_length := goodIn_ca (goodIn_r _ [4, 5, 6, 7, 8, 9, 10, 11, 12, 13, 14, 15, 16, 17, 18, 19, 20, 75, 76, 77, 78, 79, 80, 81, 82, 83, 84, 85, 86, 87, 88, 89, 90, 91, 92, 93, 94] (by decide +kernel) (by decide +kernel)) (goodIn_sub (fun _ h => List.mem_cons_of_mem _ (List.mem_append_left _ (List.mem_append_right _ h))) (by decide +kernel))
set_option maxRecDepth 20000 in
theorem gL_isRow_L_length : GoodIn wsL_isRow (va_wsS RL 97 yL_length wsL_length) := goodIn_app (goodIn_of _ (by decide +kernel)) ggL_isRow_L_length
set_option maxRecDepth 20000 in
theorem ggL_isRow_L_letter : GoodIn wsL_isRow wsL_letter := goodIn_ca (goodIn_ca (goodIn_ca (goodIn_r _ [23, 5, 24, 6, 25, 26, 27, 28, 10, 29, 30, 31, 12, 32, 33, 13, 14, 15, 16, 17, 18, 19, 20, 75, 76, 77, 78, 79, 80, 81, 82, 83, 84, 85, 86, 87, 88, 89, 90, 91, 92, 93, 94] (by decide +kernel) (by decide +kernel)) (goodIn_sub (fun _ h => List.mem_cons_of_mem _ (List.mem_append_right _ h)) (by decide +kernel))) (goodIn_sub (fun _ h => List.mem_cons_of_mem _ (List.mem_append_left _ (List.mem_append_left _ (List.mem_append_right _ h)))) (by decide +kernel))) (goodIn_sub (fun _ h => List.mem_cons_of_mem _ (List.mem_append_left _ (List.mem_append_right _ h))) (by decide +kernel))
set_option maxRecDepth 20000 in
theorem gL_isRow_L_letter : GoodIn wsL_isRow (va_wsS RL 100 yL_letter wsL_letter) := goodIn_app (goodIn_of _ (by decide +kernel)) ggL_isRow_L_letter
set_option maxRecDepth 20000 in
theorem ggL_isRow_J0_charAt_5068e : GoodIn wsL_isRow wsJ0_charAt_5068e := goodIn_r _ [38, 39, 40, 41, 42, 37, 43, 44, 45, 46, 47, 48, 49, 50, 51, 52, 53, 54, 55, 56, 57, 58, 59, 60, 61, 62, 63, 64, 65, 66, 67, 68, 69, 70, 71, 72, 73, 74, 95, 96] (by decide +kernel) (by decide +kernel)
set_option maxRecDepth 20000 in
theorem gL_isRow_J0_charAt_5068e : GoodIn wsL_isRow (wsV RL 85 RJ0 yJ0_charAt_5068e wsJ0_charAt_5068e) := goodIn_app (goodIn_of _ (by decide +kernel)) ggL_isRow_J0_charAt_5068e
theorem dL_isRow_0 : decode cL_isRow 0 = .ok (.aload_n 0, 1) := by decide +kernel
theorem dL_isRow_1 : decode cL_isRow 1 = .ok (.iload_n 1, 1) := by decide +kernel
theorem dL_isRow_2 : decode cL_isRow 2 = .ok (.invokestatic 97, 3) := by decide +kernel
theorem dL_isRow_5 : decode cL_isRow 5 = .ok (.aload_n 2, 1) := by decide +kernel
theorem dL_isRow_6 : decode cL_isRow 6 = .ok (.arraylength, 1) := by decide +kernel
theorem dL_isRow_7 : decode cL_isRow 7 = .ok (.if_icmp .ne 7, 3) := by decide +kernel
theorem dL_isRow_10 : decode cL_isRow 10 = .ok (.iconst 1, 1) := by decide +kernel
theorem dL_isRow_11 : decode cL_isRow 11 = .ok (.goto 4, 3) := by decide +kernel
theorem dL_isRow_14 : decode cL_isRow 14 = .ok (.iconst 0, 1) := by decide +kernel
theorem dL_isRow_15 : decode cL_isRow 15 = .ok (.istore_n 3, 1) := by decide +kernel
theorem dL_isRow_16 : decode cL_isRow 16 = .ok (.iconst 0, 1) := by decide +kernel
theorem dL_isRow_17 : decode cL_isRow 17 = .ok (.istore 4, 2) := by decide +kernel
theorem dL_isRow_19 : decode cL_isRow 19 = .ok (.iload 4, 2) := by decide +kernel
theorem dL_isRow_21 : decode cL_isRow 21 = .ok (.aload_n 2, 1) := by decide +kernel
theorem dL_isRow_22 : decode cL_isRow 22 = .ok (.arraylength, 1) := by decide +kernel
theorem dL_isRow_23 : decode cL_isRow 23 = .ok (.if_icmp .ge 38, 3) := by decide +kernel
theorem dL_isRow_26 : decode cL_isRow 26 = .ok (.iload_n 3, 1) := by decide +kernel
theorem dL_isRow_27 : decode cL_isRow 27 = .ok (.ifCond .eq 34, 3) := by decide +kernel
theorem dL_isRow_30 : decode cL_isRow 30 = .ok (.aload_n 0, 1) := by decide +kernel
theorem dL_isRow_31 : decode cL_isRow 31 = .ok (.iload_n 1, 1) := by decide +kernel
theorem dL_isRow_32 : decode cL_isRow 32 = .ok (.iload 4, 2) := by decide +kernel
theorem dL_isRow_34 : decode cL_isRow 34 = .ok (.invokestatic 100, 3) := by decide +kernel
theorem dL_isRow_37 : decode cL_isRow 37 = .ok (.ldc 83, 2) := by decide +kernel
theorem dL_isRow_39 : decode cL_isRow 39 = .ok (.aload_n 2, 1) := by decide +kernel
theorem dL_isRow_40 : decode cL_isRow 40 = .ok (.iload 4, 2) := by decide +kernel
theorem dL_isRow_42 : decode cL_isRow 42 = .ok (.iaload, 1) := by decide +kernel
theorem dL_isRow_43 : decode cL_isRow 43 = .ok (.invokevirtual 85, 3) := by decide +kernel
theorem dL_isRow_46 : decode cL_isRow 46 = .ok (.if_icmp .ne 7, 3) := by decide +kernel
theorem dL_isRow_49 : decode cL_isRow 49 = .ok (.iconst 1, 1) := by decide +kernel
theorem dL_isRow_50 : decode cL_isRow 50 = .ok (.goto 4, 3) := by decide +kernel
theorem dL_isRow_53 : decode cL_isRow 53 = .ok (.iconst 0, 1) := by decide +kernel
theorem dL_isRow_54 : decode cL_isRow 54 = .ok (.istore_n 3, 1) := by decide +kernel
theorem dL_isRow_55 : decode cL_isRow 55 = .ok (.iinc 4 1, 3) := by decide +kernel
theorem dL_isRow_58 : decode cL_isRow 58 = .ok (.goto (-39), 3) := by decide +kernel
theorem dL_isRow_61 : decode cL_isRow 61 = .ok (.iload_n 3, 1) := by decide +kernel
theorem dL_isRow_62 : decode cL_isRow 62 = .ok (.ireturn, 1) := by decide +kernel
end
section
set_option maxRecDepth 20000 in
theorem ggL_law_X9_init : GoodIn wsL_law wsX9_init := goodIn_r _ [9, 10, 11, 12, 13, 14, 15, 16, 17, 18, 19, 20, 21, 22, 23, 24, 25, 26, 27, 28, 29, 30, 31, 32, 33, 34, 35, 36, 37, 38, 39, 40, 41, 42, 43, 44, 45, 46, 47, 48, 49, 50, 51, 52, 53, 54, 55, 56, 57, 58, 59, 60, 61, 62, 63, 4, 64, 65, 66, 67, 68, 69, 70, 71, 72, 73, 74, 75, 76, 77, 78, 79, 80, 81, 82, 83, 84, 85, 86, 87, 88, 89, 90, 91, 92, 93, 94, 95, 96, 97, 98, 99, 100, 101, 102, 103, 104, 105, 106, 107, 108, 109, 110, 111, 112, 113, 114, 115, 116, 117, 118, 119, 120, 121, 122, 123, 124, 125, 126, 127, 128, 129, 130, 131, 430, 431, 432, 433, 434, 435, 436, 437, 438, 439, 440, 441, 442, 443, 444, 445, 446, 447, 448, 449, 450, 451, 452, 453, 454, 455, 456, 457, 458, 459, 460, 461, 462, 463, 464, 465, 466, 467, 468, 469, 470, 471, 472, 473, 474, 475, 476, 477, 478, 479, 480, 481, 482, 483, 484, 485, 486, 487, 488, 489] (by decide +kernel) (by decide +kernel)
set_option maxRecDepth 20000 in
theorem gL_law_X9_init : GoodIn wsL_law (wsX9_init) := ggL_law_X9_init
set_option maxRecDepth 20000 in
theorem ggL_law_L_type : GoodIn wsL_law wsL_type := goodIn_ca (goodIn_ca (goodIn_ca (goodIn_r _ [135, 136, 137, 3, 5, 138, 139, 140, 2, 141, 142, 143, 144, 14, 145, 146, 147, 148, 149, 150, 151, 430, 431, 432, 433, 434, 435, 436, 437, 438, 439, 440, 441, 442, 443, 444, 445, 446, 447] (by decide +kernel) (by decide +kernel)) (goodIn_sub (fun _ h => List.mem_append_left _ (List.mem_append_left _ (List.mem_append_left _ (List.mem_append_left _ (List.mem_append_right _ h))))) (by decide +kernel))) (goodIn_sub (fun _ h => List.mem_append_left _ (List.mem_append_left _ (List.mem_append_left _ (List.mem_append_right _ h)))) (by decide +kernel))) (goodIn_sub (fun _ h => List.mem_append_left _ (List.mem_append_left _ (List.mem_append_right _ h))) (by decide +kernel))
set_option maxRecDepth 20000 in
theorem gL_law_L_type : GoodIn wsL_law (va_wsS RL 91 yL_type wsL_type) := goodIn_app (goodIn_of _ (by decide +kernel)) ggL_law_L_type
set_option maxRecDepth 20000 in
theorem ggL_law_X9_wipe : GoodIn wsL_law wsX9_wipe := goodIn_r _ [155, 144, 430, 431, 432, 433, 434, 435, 436, 437, 438, 439, 440, 441, 442, 443, 444, 445, 446, 447] (by decide +kernel) (by decide +kernel)
set_option maxRecDepth 20000 in
theorem gL_law_X9_wipe : GoodIn wsL_law (wsV RL 104 RX9 yX9_wipe wsX9_wipe) := goodIn_app (goodIn_of _ (by decide +kernel)) ggL_law_X9_wipe
set_option maxRecDepth 20000 in
theorem ggL_law_L_length : GoodIn wsL_law wsL_length := goodIn_ca (goodIn_r _ [158, 159, 3, 160, 161, 162, 2, 163, 164, 165, 166, 167, 168, 169, 170, 171, 16, 448, 449, 430, 431, 432, 433, 434, 435, 436, 437, 438, 439, 440, 441, 442, 443, 444, 445, 446, 447] (by decide +kernel) (by decide +kernel)) (goodIn_sub (fun _ h => List.mem_append_left _ (List.mem_append_right _ h)) (by decide +kernel))
set_option maxRecDepth 20000 in
theorem gL_law_L_length : GoodIn wsL_law (va_wsS RL 97 yL_length wsL_length) := goodIn_app (goodIn_of _ (by decide +kernel)) ggL_law_L_length
set_option maxRecDepth 20000 in
theorem ggL_law_L_in : GoodIn wsL_law wsL_in := goodIn_ca (goodIn_r _ [174, 175, 176, 177, 134, 178, 179, 180] (by decide +kernel) (by decide +kernel)) (goodIn_sub (fun _ h => List.mem_append_left _ (List.mem_append_left _ (List.mem_append_left _ (List.mem_append_right _ h)))) (by decide +kernel))
set_option maxRecDepth 20000 in
theorem gL_law_L_in : GoodIn wsL_law (va_wsS RL 75 yL_in wsL_in) := goodIn_app (goodIn_of _ (by decide +kernel)) ggL_law_L_in
set_option maxRecDepth 20000 in
theorem ggL_law_L_some : GoodIn wsL_law wsL_some := goodIn_ca (goodIn_r _ [183, 4, 172, 173, 134, 174, 175, 176, 177, 178, 179, 180, 184, 185, 186] (by decide +kernel) (by decide +kernel)) (goodIn_sub (fun _ h => List.mem_append_left _ (List.mem_append_left _ (List.mem_append_left _ (List.mem_append_right _ h)))) (by decide +kernel))
set_option maxRecDepth 20000 in
theorem gL_law_L_some : GoodIn wsL_law (va_wsS RL 107 yL_some wsL_some) := goodIn_app (goodIn_of _ (by decide +kernel)) ggL_law_L_some
set_option maxRecDepth 20000 in
theorem ggL_law_L_told : GoodIn wsL_law wsL_told := goodIn_ca (goodIn_ca (goodIn_ca (goodIn_r _ [189, 190, 191, 192, 193, 194, 195, 196, 197, 198, 199, 200, 201, 202, 203, 204, 205, 206, 207, 208, 209, 210, 211, 212, 213, 214, 215, 216, 217, 218, 219, 220, 221, 222, 223, 224, 225, 226, 227, 228, 229, 230, 132, 133, 134, 135, 136, 137, 3, 5, 138, 139, 140, 2, 141, 142, 143, 144, 14, 145, 146, 147, 148, 149, 150, 151, 231, 232, 233, 234, 235, 236, 237, 26, 238, 239, 240, 25, 241, 242, 243, 244, 245, 246, 60, 247, 248, 249, 250, 171, 164, 16, 251, 252, 253, 254, 490, 491, 430, 431, 432, 433, 434, 435, 436, 437, 438, 439, 440, 441, 442, 443, 444, 445, 446, 447, 448, 449] (by decide +kernel) (by decide +kernel)) (goodIn_sub (fun _ h => List.mem_append_left _ (List.mem_append_left _ (List.mem_append_left _ (List.mem_append_right _ h)))) (by decide +kernel))) (goodIn_sub (fun _ h => List.mem_append_left _ (List.mem_append_left _ (List.mem_append_left _ (List.mem_append_left _ (List.mem_append_right _ h))))) (by decide +kernel))) (goodIn_sub (fun _ h => List.mem_append_left _ (List.mem_append_left _ (List.mem_append_right _ h))) (by decide +kernel))
set_option maxRecDepth 20000 in
theorem gL_law_L_told : GoodIn wsL_law (va_wsS RL 111 yL_told wsL_told) := goodIn_app (goodIn_of _ (by decide +kernel)) ggL_law_L_told
set_option maxRecDepth 20000 in
theorem ggL_law_L_isRow : GoodIn wsL_law wsL_isRow := goodIn_ca (goodIn_ca (goodIn_ca (goodIn_r _ [257, 156, 157, 134, 158, 159, 3, 160, 161, 162, 2, 163, 164, 165, 166, 167, 168, 169, 170, 171, 16, 258, 259, 260, 261, 5, 262, 263, 264, 265, 266, 267, 151, 268, 190, 191, 192, 193, 194, 195, 196, 197, 198, 199, 200, 201, 202, 203, 204, 205, 206, 207, 208, 209, 210, 211, 212, 213, 214, 215, 216, 217, 218, 219, 220, 221, 222, 223, 224, 225, 226, 227, 228, 229, 230, 448, 449, 430, 431, 432, 433, 434, 435, 436, 437, 438, 439, 440, 441, 442, 443, 444, 445, 446, 447, 490, 491] (by decide +kernel) (by decide +kernel)) (goodIn_sub (fun _ h => List.mem_append_left _ (List.mem_append_left _ (List.mem_append_left _ (List.mem_append_right _ h)))) (by decide +kernel))) (goodIn_sub (fun _ h => List.mem_append_left _ (List.mem_append_right _ h)) (by decide +kernel))) (goodIn_sub (fun _ h => List.mem_append_right _ h) (by decide +kernel))
set_option maxRecDepth 20000 in
theorem gL_law_L_isRow : GoodIn wsL_law (va_wsS RL 115 yL_isRow wsL_isRow) := goodIn_app (goodIn_of _ (by decide +kernel)) ggL_law_L_isRow
set_option maxRecDepth 20000 in
theorem ggL_law_L_joined : GoodIn wsL_law wsL_joined := goodIn_ca (goodIn_r _ [186, 4] (by decide +kernel) (by decide +kernel)) (goodIn_sub (fun _ h => List.mem_append_left _ (List.mem_append_left _ (List.mem_append_left _ (List.mem_append_right _ h)))) (by decide +kernel))
set_option maxRecDepth 20000 in
theorem gL_law_L_joined : GoodIn wsL_law (va_wsS RL 79 yL_joined wsL_joined) := goodIn_app (goodIn_of _ (by decide +kernel)) ggL_law_L_joined
set_option maxRecDepth 20000 in
theorem ggL_law_L_letter : GoodIn wsL_law wsL_letter := goodIn_ca (goodIn_ca (goodIn_ca (goodIn_r _ [260, 159, 261, 3, 5, 262, 263, 264, 2, 265, 266, 267, 164, 151, 268, 165, 166, 167, 168, 169, 170, 171, 16, 448, 449, 430, 431, 432, 433, 434, 435, 436, 437, 438, 439, 440, 441, 442, 443, 444, 445, 446, 447] (by decide +kernel) (by decide +kernel)) (goodIn_sub (fun _ h => List.mem_append_right _ h) (by decide +kernel))) (goodIn_sub (fun _ h => List.mem_append_left _ (List.mem_append_left _ (List.mem_append_left _ (List.mem_append_right _ h)))) (by decide +kernel))) (goodIn_sub (fun _ h => List.mem_append_left _ (List.mem_append_right _ h)) (by decide +kernel))
set_option maxRecDepth 20000 in
theorem gL_law_L_letter : GoodIn wsL_law (va_wsS RL 100 yL_letter wsL_letter) := goodIn_app (goodIn_of _ (by decide +kernel)) ggL_law_L_letter
set_option maxRecDepth 20000 in
theorem ggL_law_L_product : GoodIn wsL_law wsL_product := goodIn_ca (goodIn_ca (goodIn_ca (goodIn_r _ [271, 159, 137, 3, 5, 272, 273, 274, 2, 275, 26, 165, 166, 167, 168, 169, 170, 171, 16, 276, 277, 278, 238, 239, 240, 25, 241, 242, 279, 280, 281, 282, 60, 283, 244, 245, 246, 247, 248, 249, 250, 142, 143, 164, 251, 252, 253, 254, 430, 431, 432, 433, 434, 435, 436, 437, 438, 439, 440, 441, 442, 443, 444, 445, 446, 447, 448, 449] (by decide +kernel) (by decide +kernel)) (goodIn_sub (fun _ h => List.mem_append_left _ (List.mem_append_right _ h)) (by decide +kernel))) (goodIn_sub (fun _ h => List.mem_append_left _ (List.mem_append_left _ (List.mem_append_left _ (List.mem_append_right _ h)))) (by decide +kernel))) (goodIn_sub (fun _ h => List.mem_append_left _ (List.mem_append_left _ (List.mem_append_left _ (List.mem_append_left _ (List.mem_append_right _ h))))) (by decide +kernel))
set_option maxRecDepth 20000 in
theorem gL_law_L_product : GoodIn wsL_law (va_wsS RL 119 yL_product wsL_product) := goodIn_app (goodIn_of _ (by decide +kernel)) ggL_law_L_product
set_option maxRecDepth 20000 in
theorem ggL_law_L_inverse : GoodIn wsL_law wsL_inverse := goodIn_ca (goodIn_ca (goodIn_ca (goodIn_r _ [286, 159, 137, 3, 5, 287, 288, 289, 2, 290, 26, 165, 166, 167, 168, 169, 170, 171, 16, 238, 239, 240, 25, 241, 242, 291, 292, 293, 294, 60, 283, 244, 245, 246, 247, 248, 249, 250, 142, 143, 164, 251, 252, 253, 254, 430, 431, 432, 433, 434, 435, 436, 437, 438, 439, 440, 441, 442, 443, 444, 445, 446, 447, 448, 449] (by decide +kernel) (by decide +kernel)) (goodIn_sub (fun _ h => List.mem_append_left _ (List.mem_append_right _ h)) (by decide +kernel))) (goodIn_sub (fun _ h => List.mem_append_left _ (List.mem_append_left _ (List.mem_append_left _ (List.mem_append_right _ h)))) (by decide +kernel))) (goodIn_sub (fun _ h => List.mem_append_left _ (List.mem_append_left _ (List.mem_append_left _ (List.mem_append_left _ (List.mem_append_right _ h))))) (by decide +kernel))
set_option maxRecDepth 20000 in
theorem gL_law_L_inverse : GoodIn wsL_law (va_wsS RL 121 yL_inverse wsL_inverse) := goodIn_app (goodIn_of _ (by decide +kernel)) ggL_law_L_inverse
set_option maxRecDepth 20000 in
theorem ggL_law_L_turned : GoodIn wsL_law wsL_turned := goodIn_ca (goodIn_r _ [297, 4] (by decide +kernel) (by decide +kernel)) (goodIn_sub (fun _ h => List.mem_append_left _ (List.mem_append_left _ (List.mem_append_left _ (List.mem_append_right _ h)))) (by decide +kernel))
set_option maxRecDepth 20000 in
theorem gL_law_L_turned : GoodIn wsL_law (va_wsS RL 123 yL_turned wsL_turned) := goodIn_app (goodIn_of _ (by decide +kernel)) ggL_law_L_turned
set_option maxRecDepth 20000 in
theorem ggL_law_L_compare : GoodIn wsL_law wsL_compare := goodIn_ca (goodIn_ca (goodIn_r _ [300, 159, 3, 301, 302, 303, 2, 304, 165, 166, 167, 168, 169, 170, 171, 16, 305, 306, 307, 25, 308, 242, 60, 430, 431, 432, 433, 434, 435, 436, 437, 438, 439, 440, 441, 442, 443, 444, 445, 446, 447, 448, 449] (by decide +kernel) (by decide +kernel)) (goodIn_sub (fun _ h => List.mem_append_left _ (List.mem_append_right _ h)) (by decide +kernel))) (goodIn_sub (fun _ h => List.mem_append_left _ (List.mem_append_left _ (List.mem_append_left _ (List.mem_append_right _ h)))) (by decide +kernel))
set_option maxRecDepth 20000 in
theorem gL_law_L_compare : GoodIn wsL_law (va_wsS RL 127 yL_compare wsL_compare) := goodIn_app (goodIn_of _ (by decide +kernel)) ggL_law_L_compare
set_option maxRecDepth 20000 in
theorem ggL_law_L_power : GoodIn wsL_law wsL_power := goodIn_ca (goodIn_ca (goodIn_ca (goodIn_ca (goodIn_r _ [311, 159, 136, 137, 3, 5, 6, 312, 313, 314, 2, 315, 149, 150, 26, 165, 166, 167, 168, 169, 170, 171, 16, 238, 239, 240, 25, 241, 242, 279, 280, 281, 282, 60, 283, 244, 245, 246, 291, 292, 293, 294, 247, 248, 249, 250, 142, 143, 164, 251, 252, 253, 254, 430, 431, 432, 433, 434, 435, 436, 437, 438, 439, 440, 441, 442, 443, 444, 445, 446, 447, 448, 449] (by decide +kernel) (by decide +kernel)) (goodIn_sub (fun _ h => List.mem_append_left _ (List.mem_append_left _ (List.mem_append_right _ h))) (by decide +kernel))) (goodIn_sub (fun _ h => List.mem_append_left _ (List.mem_append_right _ h)) (by decide +kernel))) (goodIn_sub (fun _ h => List.mem_append_left _ (List.mem_append_left _ (List.mem_append_left _ (List.mem_append_right _ h)))) (by decide +kernel))) (goodIn_sub (fun _ h => List.mem_append_left _ (List.mem_append_left _ (List.mem_append_left _ (List.mem_append_left _ (List.mem_append_right _ h))))) (by decide +kernel))
set_option maxRecDepth 20000 in
theorem gL_law_L_power : GoodIn wsL_law (va_wsS RL 129 yL_power wsL_power) := goodIn_app (goodIn_of _ (by decide +kernel)) ggL_law_L_power
set_option maxRecDepth 20000 in
theorem ggL_law_L_core : GoodIn wsL_law wsL_core := goodIn_ca (goodIn_ca (goodIn_r _ [318, 159, 3, 319, 320, 321, 2, 322, 165, 166, 167, 168, 169, 170, 171, 16, 323, 324, 325, 25, 326, 242, 327, 328, 329, 330, 60, 430, 431, 432, 433, 434, 435, 436, 437, 438, 439, 440, 441, 442, 443, 444, 445, 446, 447, 448, 449] (by decide +kernel) (by decide +kernel)) (goodIn_sub (fun _ h => List.mem_append_left _ (List.mem_append_right _ h)) (by decide +kernel))) (goodIn_sub (fun _ h => List.mem_append_left _ (List.mem_append_left _ (List.mem_append_left _ (List.mem_append_right _ h)))) (by decide +kernel))
set_option maxRecDepth 20000 in
theorem gL_law_L_core : GoodIn wsL_law (va_wsS RL 131 yL_core wsL_core) := goodIn_app (goodIn_of _ (by decide +kernel)) ggL_law_L_core
set_option maxRecDepth 20000 in
theorem ggL_law_L_exponent : GoodIn wsL_law wsL_exponent := goodIn_ca (goodIn_ca (goodIn_ca (goodIn_r _ [333, 159, 261, 3, 5, 334, 335, 336, 2, 337, 266, 267, 164, 165, 166, 167, 168, 169, 170, 171, 16, 338, 339, 340, 25, 341, 242, 327, 328, 329, 330, 60, 342, 343, 344, 345, 323, 324, 325, 326, 448, 449, 430, 431, 432, 433, 434, 435, 436, 437, 438, 439, 440, 441, 442, 443, 444, 445, 446, 447] (by decide +kernel) (by decide +kernel)) (goodIn_sub (fun _ h => List.mem_append_right _ h) (by decide +kernel))) (goodIn_sub (fun _ h => List.mem_append_left _ (List.mem_append_right _ h)) (by decide +kernel))) (goodIn_sub (fun _ h => List.mem_append_left _ (List.mem_append_left _ (List.mem_append_left _ (List.mem_append_right _ h)))) (by decide +kernel))
set_option maxRecDepth 20000 in
theorem gL_law_L_exponent : GoodIn wsL_law (va_wsS RL 133 yL_exponent wsL_exponent) := goodIn_app (goodIn_of _ (by decide +kernel)) ggL_law_L_exponent
set_option maxRecDepth 20000 in
theorem ggL_law_J0_charAt_5068e : GoodIn wsL_law wsJ0_charAt_5068e := goodIn_r _ [194, 195, 196, 197, 198, 193, 199, 200, 201, 202, 203, 204, 205, 206, 207, 208, 209, 210, 211, 212, 213, 214, 215, 216, 217, 218, 219, 220, 221, 222, 223, 224, 225, 226, 227, 228, 229, 230, 490, 491] (by decide +kernel) (by decide +kernel)
set_option maxRecDepth 20000 in
theorem gL_law_J0_charAt_5068e : GoodIn wsL_law (wsV RL 85 RJ0 yJ0_charAt_5068e wsJ0_charAt_5068e) := goodIn_app (goodIn_of _ (by decide +kernel)) ggL_law_J0_charAt_5068e
set_option maxRecDepth 20000 in
theorem ggL_law_L_sum : GoodIn wsL_law wsL_sum := goodIn_ca (goodIn_ca (goodIn_ca (goodIn_r _ [348, 159, 136, 3, 5, 349, 350, 351, 2, 352, 165, 166, 167, 168, 169, 170, 171, 16, 145, 146, 147, 148, 149, 150, 151, 353, 354, 355, 25, 356, 242, 60, 430, 431, 432, 433, 434, 435, 436, 437, 438, 439, 440, 441, 442, 443, 444, 445, 446, 447, 448, 449] (by decide +kernel) (by decide +kernel)) (goodIn_sub (fun _ h => List.mem_append_left _ (List.mem_append_right _ h)) (by decide +kernel))) (goodIn_sub (fun _ h => List.mem_append_left _ (List.mem_append_left _ (List.mem_append_left _ (List.mem_append_right _ h)))) (by decide +kernel))) (goodIn_sub (fun _ h => List.mem_append_left _ (List.mem_append_left _ (List.mem_append_right _ h))) (by decide +kernel))
set_option maxRecDepth 20000 in
theorem gL_law_L_sum : GoodIn wsL_law (va_wsS RL 135 yL_sum wsL_sum) := goodIn_app (goodIn_of _ (by decide +kernel)) ggL_law_L_sum
set_option maxRecDepth 20000 in
theorem ggL_law_L_commute : GoodIn wsL_law wsL_commute := goodIn_ca (goodIn_ca (goodIn_r _ [359, 159, 3, 360, 361, 362, 2, 363, 26, 27, 165, 166, 167, 168, 169, 170, 171, 16, 276, 277, 278, 238, 239, 240, 25, 241, 242, 279, 280, 281, 282, 60, 283, 244, 245, 246, 305, 306, 307, 308, 430, 431, 432, 433, 434, 435, 436, 437, 438, 439, 440, 441, 442, 443, 444, 445, 446, 447, 448, 449] (by decide +kernel) (by decide +kernel)) (goodIn_sub (fun _ h => List.mem_append_left _ (List.mem_append_right _ h)) (by decide +kernel))) (goodIn_sub (fun _ h => List.mem_append_left _ (List.mem_append_left _ (List.mem_append_left _ (List.mem_append_right _ h)))) (by decide +kernel))
set_option maxRecDepth 20000 in
theorem gL_law_L_commute : GoodIn wsL_law (va_wsS RL 138 yL_commute wsL_commute) := goodIn_app (goodIn_of _ (by decide +kernel)) ggL_law_L_commute
set_option maxRecDepth 20000 in
theorem ggL_law_L_conjugator : GoodIn wsL_law wsL_conjugator := goodIn_ca (goodIn_ca (goodIn_ca (goodIn_ca (goodIn_r _ [366, 159, 261, 137, 3, 5, 6, 367, 368, 369, 2, 370, 266, 267, 26, 27, 165, 166, 167, 168, 169, 170, 171, 16, 371, 372, 373, 25, 374, 375, 324, 325, 326, 242, 327, 328, 329, 330, 60, 376, 377, 378, 379, 380, 381, 382, 383, 384, 238, 239, 240, 241, 385, 386, 387, 388, 283, 244, 245, 246, 338, 339, 340, 341, 342, 343, 344, 345, 389, 390, 391, 392, 305, 306, 307, 308, 247, 248, 249, 250, 142, 143, 164, 251, 252, 253, 254, 430, 431, 432, 433, 434, 435, 436, 437, 438, 439, 440, 441, 442, 443, 444, 445, 446, 447, 448, 449] (by decide +kernel) (by decide +kernel)) (goodIn_sub (fun _ h => List.mem_append_right _ h) (by decide +kernel))) (goodIn_sub (fun _ h => List.mem_append_left _ (List.mem_append_right _ h)) (by decide +kernel))) (goodIn_sub (fun _ h => List.mem_append_left _ (List.mem_append_left _ (List.mem_append_left _ (List.mem_append_right _ h)))) (by decide +kernel))) (goodIn_sub (fun _ h => List.mem_append_left _ (List.mem_append_left _ (List.mem_append_left _ (List.mem_append_left _ (List.mem_append_right _ h))))) (by decide +kernel))
set_option maxRecDepth 20000 in
theorem gL_law_L_conjugator : GoodIn wsL_law (va_wsS RL 140 yL_conjugator wsL_conjugator) := goodIn_app (goodIn_of _ (by decide +kernel)) ggL_law_L_conjugator
set_option maxRecDepth 20000 in
theorem ggL_law_X9_isSound : GoodIn wsL_law wsX9_isSound := goodIn_ca (goodIn_r _ [396, 171, 16, 397, 21, 398, 23, 399, 400, 401, 402, 25, 403, 242, 60, 404, 405, 406, 53, 407, 118, 408, 409, 410, 120, 411, 412, 413, 30, 414, 415, 416, 417, 418, 419, 64, 420, 421, 422, 423, 424, 425, 426, 427, 428, 429, 430, 431, 432, 433, 434, 435, 436, 437, 438, 439, 440, 441, 442, 443, 444, 445, 446, 447, 486, 487, 488, 489, 448, 449, 483, 484, 485, 450, 451, 452, 453, 454, 455, 456] (by decide +kernel) (by decide +kernel)) (goodIn_sub (fun _ h => List.mem_append_left _ (List.mem_append_left _ (List.mem_append_left _ (List.mem_append_right _ h)))) (by decide +kernel))
set_option maxRecDepth 20000 in
theorem gL_law_X9_isSound : GoodIn wsL_law (wsV RL 142 RX9 yX9_isSound wsX9_isSound) := goodIn_app (goodIn_of _ (by decide +kernel)) ggL_law_X9_isSound
theorem dL_law_0 : decode cL_law 0 = .ok (.new 10, 3) := by decide +kernel
theorem dL_law_3 : decode cL_law 3 = .ok (.dup, 1) := by decide +kernel
theorem dL_law_4 : decode cL_law 4 = .ok (.invokespecial 103, 3) := by decide +kernel
theorem dL_law_7 : decode cL_law 7 = .ok (.astore_n 1, 1) := by decide +kernel
theorem dL_law_8 : decode cL_law 8 = .ok (.aload_n 1, 1) := by decide +kernel
theorem dL_law_9 : decode cL_law 9 = .ok (.bipush 100, 2) := by decide +kernel
theorem dL_law_11 : decode cL_law 11 = .ok (.invokestatic 91, 3) := by decide +kernel
theorem dL_law_14 : decode cL_law 14 = .ok (.ldc 17, 2) := by decide +kernel
theorem dL_law_16 : decode cL_law 16 = .ok (.if_icmp .ne 52, 3) := by decide +kernel
theorem dL_law_19 : decode cL_law 19 = .ok (.aload_n 1, 1) := by decide +kernel
theorem dL_law_20 : decode cL_law 20 = .ok (.invokevirtual 104, 3) := by decide +kernel
theorem dL_law_23 : decode cL_law 23 = .ok (.ifCond .ne 45, 3) := by decide +kernel
theorem dL_law_26 : decode cL_law 26 = .ok (.aload_n 1, 1) := by decide +kernel
theorem dL_law_27 : decode cL_law 27 = .ok (.iconst 0, 1) := by decide +kernel
theorem dL_law_28 : decode cL_law 28 = .ok (.invokestatic 97, 3) := by decide +kernel
theorem dL_law_31 : decode cL_law 31 = .ok (.ldc 17, 2) := by decide +kernel
theorem dL_law_33 : decode cL_law 33 = .ok (.if_icmp .ne 35, 3) := by decide +kernel
theorem dL_law_36 : decode cL_law 36 = .ok (.aload_n 1, 1) := by decide +kernel
theorem dL_law_37 : decode cL_law 37 = .ok (.bipush 97, 2) := by decide +kernel
theorem dL_law_39 : decode cL_law 39 = .ok (.invokestatic 91, 3) := by decide +kernel
theorem dL_law_42 : decode cL_law 42 = .ok (.iconst 1, 1) := by decide +kernel
theorem dL_law_43 : decode cL_law 43 = .ok (.if_icmp .ne 25, 3) := by decide +kernel
theorem dL_law_46 : decode cL_law 46 = .ok (.aload_n 1, 1) := by decide +kernel
theorem dL_law_47 : decode cL_law 47 = .ok (.bipush 98, 2) := by decide +kernel
theorem dL_law_49 : decode cL_law 49 = .ok (.invokestatic 91, 3) := by decide +kernel
theorem dL_law_52 : decode cL_law 52 = .ok (.iconst 2, 1) := by decide +kernel
theorem dL_law_53 : decode cL_law 53 = .ok (.if_icmp .ne 15, 3) := by decide +kernel
theorem dL_law_56 : decode cL_law 56 = .ok (.aload_n 1, 1) := by decide +kernel
theorem dL_law_57 : decode cL_law 57 = .ok (.invokevirtual 104, 3) := by decide +kernel
theorem dL_law_60 : decode cL_law 60 = .ok (.iconst 2, 1) := by decide +kernel
theorem dL_law_61 : decode cL_law 61 = .ok (.if_icmp .ne 7, 3) := by decide +kernel
theorem dL_law_64 : decode cL_law 64 = .ok (.iconst 1, 1) := by decide +kernel
theorem dL_law_65 : decode cL_law 65 = .ok (.goto 4, 3) := by decide +kernel
theorem dL_law_68 : decode cL_law 68 = .ok (.iconst 0, 1) := by decide +kernel
theorem dL_law_69 : decode cL_law 69 = .ok (.istore_n 2, 1) := by decide +kernel
theorem dL_law_70 : decode cL_law 70 = .ok (.aload_n 0, 1) := by decide +kernel
theorem dL_law_71 : decode cL_law 71 = .ok (.iconst 0, 1) := by decide +kernel
theorem dL_law_72 : decode cL_law 72 = .ok (.aload_n 0, 1) := by decide +kernel
theorem dL_law_73 : decode cL_law 73 = .ok (.bipush 100, 2) := by decide +kernel
theorem dL_law_75 : decode cL_law 75 = .ok (.bipush 10, 2) := by decide +kernel
theorem dL_law_77 : decode cL_law 77 = .ok (.invokestatic 75, 3) := by decide +kernel
theorem dL_law_80 : decode cL_law 80 = .ok (.invokestatic 107, 3) := by decide +kernel
theorem dL_law_83 : decode cL_law 83 = .ok (.astore_n 3, 1) := by decide +kernel
theorem dL_law_84 : decode cL_law 84 = .ok (.aload_n 0, 1) := by decide +kernel
theorem dL_law_85 : decode cL_law 85 = .ok (.bipush 20, 2) := by decide +kernel
theorem dL_law_87 : decode cL_law 87 = .ok (.aload_n 0, 1) := by decide +kernel
theorem dL_law_88 : decode cL_law 88 = .ok (.bipush 101, 2) := by decide +kernel
theorem dL_law_90 : decode cL_law 90 = .ok (.bipush 10, 2) := by decide +kernel
theorem dL_law_92 : decode cL_law 92 = .ok (.invokestatic 75, 3) := by decide +kernel
theorem dL_law_95 : decode cL_law 95 = .ok (.invokestatic 107, 3) := by decide +kernel
theorem dL_law_98 : decode cL_law 98 = .ok (.astore 4, 2) := by decide +kernel
theorem dL_law_100 : decode cL_law 100 = .ok (.aload_n 0, 1) := by decide +kernel
theorem dL_law_101 : decode cL_law 101 = .ok (.bipush 102, 2) := by decide +kernel
theorem dL_law_103 : decode cL_law 103 = .ok (.bipush 20, 2) := by decide +kernel
theorem dL_law_105 : decode cL_law 105 = .ok (.invokestatic 75, 3) := by decide +kernel
theorem dL_law_108 : decode cL_law 108 = .ok (.newarray .int, 2) := by decide +kernel
theorem dL_law_110 : decode cL_law 110 = .ok (.astore 5, 2) := by decide +kernel
theorem dL_law_112 : decode cL_law 112 = .ok (.iconst 0, 1) := by decide +kernel
theorem dL_law_113 : decode cL_law 113 = .ok (.istore 6, 2) := by decide +kernel
theorem dL_law_115 : decode cL_law 115 = .ok (.iload 6, 2) := by decide +kernel
theorem dL_law_117 : decode cL_law 117 = .ok (.aload 5, 2) := by decide +kernel
theorem dL_law_119 : decode cL_law 119 = .ok (.arraylength, 1) := by decide +kernel
theorem dL_law_120 : decode cL_law 120 = .ok (.if_icmp .ge 25, 3) := by decide +kernel
theorem dL_law_123 : decode cL_law 123 = .ok (.aload 5, 2) := by decide +kernel
theorem dL_law_125 : decode cL_law 125 = .ok (.iload 6, 2) := by decide +kernel
theorem dL_law_127 : decode cL_law 127 = .ok (.aload_n 0, 1) := by decide +kernel
theorem dL_law_128 : decode cL_law 128 = .ok (.bipush 40, 2) := by decide +kernel
theorem dL_law_130 : decode cL_law 130 = .ok (.iload 6, 2) := by decide +kernel
theorem dL_law_132 : decode cL_law 132 = .ok (.iadd, 1) := by decide +kernel
theorem dL_law_133 : decode cL_law 133 = .ok (.bipush 6, 2) := by decide +kernel
theorem dL_law_135 : decode cL_law 135 = .ok (.invokestatic 75, 3) := by decide +kernel
theorem dL_law_138 : decode cL_law 138 = .ok (.iastore, 1) := by decide +kernel
theorem dL_law_139 : decode cL_law 139 = .ok (.iinc 6 1, 3) := by decide +kernel
theorem dL_law_142 : decode cL_law 142 = .ok (.goto (-27), 3) := by decide +kernel
theorem dL_law_145 : decode cL_law 145 = .ok (.iload_n 2, 1) := by decide +kernel
theorem dL_law_146 : decode cL_law 146 = .ok (.aload_n 1, 1) := by decide +kernel
theorem dL_law_147 : decode cL_law 147 = .ok (.aload_n 3, 1) := by decide +kernel
theorem dL_law_148 : decode cL_law 148 = .ok (.invokestatic 111, 3) := by decide +kernel
theorem dL_law_151 : decode cL_law 151 = .ok (.ifCond .ne 74, 3) := by decide +kernel
theorem dL_law_154 : decode cL_law 154 = .ok (.aload_n 1, 1) := by decide +kernel
theorem dL_law_155 : decode cL_law 155 = .ok (.aload 4, 2) := by decide +kernel
theorem dL_law_157 : decode cL_law 157 = .ok (.invokestatic 111, 3) := by decide +kernel
theorem dL_law_160 : decode cL_law 160 = .ok (.iconst 1, 1) := by decide +kernel
theorem dL_law_161 : decode cL_law 161 = .ok (.if_icmp .ne 64, 3) := by decide +kernel
theorem dL_law_164 : decode cL_law 164 = .ok (.aload_n 1, 1) := by decide +kernel
theorem dL_law_165 : decode cL_law 165 = .ok (.aload 5, 2) := by decide +kernel
theorem dL_law_167 : decode cL_law 167 = .ok (.invokestatic 111, 3) := by decide +kernel
theorem dL_law_170 : decode cL_law 170 = .ok (.iconst 2, 1) := by decide +kernel
theorem dL_law_171 : decode cL_law 171 = .ok (.if_icmp .ne 54, 3) := by decide +kernel
theorem dL_law_174 : decode cL_law 174 = .ok (.aload_n 1, 1) := by decide +kernel
theorem dL_law_175 : decode cL_law 175 = .ok (.iconst 0, 1) := by decide +kernel
theorem dL_law_176 : decode cL_law 176 = .ok (.aload_n 3, 1) := by decide +kernel
theorem dL_law_177 : decode cL_law 177 = .ok (.invokestatic 115, 3) := by decide +kernel
theorem dL_law_180 : decode cL_law 180 = .ok (.ifCond .eq 45, 3) := by decide +kernel
theorem dL_law_183 : decode cL_law 183 = .ok (.aload_n 1, 1) := by decide +kernel
theorem dL_law_184 : decode cL_law 184 = .ok (.iconst 1, 1) := by decide +kernel
theorem dL_law_185 : decode cL_law 185 = .ok (.aload 4, 2) := by decide +kernel
theorem dL_law_187 : decode cL_law 187 = .ok (.invokestatic 115, 3) := by decide +kernel
theorem dL_law_190 : decode cL_law 190 = .ok (.ifCond .eq 35, 3) := by decide +kernel
theorem dL_law_193 : decode cL_law 193 = .ok (.aload_n 1, 1) := by decide +kernel
theorem dL_law_194 : decode cL_law 194 = .ok (.iconst 2, 1) := by decide +kernel
theorem dL_law_195 : decode cL_law 195 = .ok (.aload 5, 2) := by decide +kernel
theorem dL_law_197 : decode cL_law 197 = .ok (.iconst 0, 1) := by decide +kernel
theorem dL_law_198 : decode cL_law 198 = .ok (.newarray .int, 2) := by decide +kernel
theorem dL_law_200 : decode cL_law 200 = .ok (.invokestatic 79, 3) := by decide +kernel
theorem dL_law_203 : decode cL_law 203 = .ok (.invokestatic 115, 3) := by decide +kernel
theorem dL_law_206 : decode cL_law 206 = .ok (.ifCond .eq 19, 3) := by decide +kernel
theorem dL_law_209 : decode cL_law 209 = .ok (.aload_n 1, 1) := by decide +kernel
theorem dL_law_210 : decode cL_law 210 = .ok (.iconst 0, 1) := by decide +kernel
theorem dL_law_211 : decode cL_law 211 = .ok (.aload_n 3, 1) := by decide +kernel
theorem dL_law_212 : decode cL_law 212 = .ok (.arraylength, 1) := by decide +kernel
theorem dL_law_213 : decode cL_law 213 = .ok (.invokestatic 100, 3) := by decide +kernel
theorem dL_law_216 : decode cL_law 216 = .ok (.ldc 20, 2) := by decide +kernel
theorem dL_law_218 : decode cL_law 218 = .ok (.if_icmp .ne 7, 3) := by decide +kernel
theorem dL_law_221 : decode cL_law 221 = .ok (.iconst 1, 1) := by decide +kernel
theorem dL_law_222 : decode cL_law 222 = .ok (.goto 4, 3) := by decide +kernel
theorem dL_law_225 : decode cL_law 225 = .ok (.iconst 0, 1) := by decide +kernel
theorem dL_law_226 : decode cL_law 226 = .ok (.iand, 1) := by decide +kernel
theorem dL_law_227 : decode cL_law 227 = .ok (.istore_n 2, 1) := by decide +kernel
theorem dL_law_228 : decode cL_law 228 = .ok (.aload_n 3, 1) := by decide +kernel
theorem dL_law_229 : decode cL_law 229 = .ok (.aload 4, 2) := by decide +kernel
theorem dL_law_231 : decode cL_law 231 = .ok (.invokestatic 79, 3) := by decide +kernel
theorem dL_law_234 : decode cL_law 234 = .ok (.astore 6, 2) := by decide +kernel
theorem dL_law_236 : decode cL_law 236 = .ok (.iload_n 2, 1) := by decide +kernel
theorem dL_law_237 : decode cL_law 237 = .ok (.aload_n 1, 1) := by decide +kernel
theorem dL_law_238 : decode cL_law 238 = .ok (.iconst 0, 1) := by decide +kernel
theorem dL_law_239 : decode cL_law 239 = .ok (.iconst 1, 1) := by decide +kernel
theorem dL_law_240 : decode cL_law 240 = .ok (.invokestatic 119, 3) := by decide +kernel
theorem dL_law_243 : decode cL_law 243 = .ok (.iconst 3, 1) := by decide +kernel
theorem dL_law_244 : decode cL_law 244 = .ok (.if_icmp .ne 56, 3) := by decide +kernel
theorem dL_law_247 : decode cL_law 247 = .ok (.aload_n 1, 1) := by decide +kernel
theorem dL_law_248 : decode cL_law 248 = .ok (.iconst 3, 1) := by decide +kernel
theorem dL_law_249 : decode cL_law 249 = .ok (.aload 6, 2) := by decide +kernel
theorem dL_law_251 : decode cL_law 251 = .ok (.invokestatic 115, 3) := by decide +kernel
theorem dL_law_254 : decode cL_law 254 = .ok (.ifCond .eq 46, 3) := by decide +kernel
theorem dL_law_257 : decode cL_law 257 = .ok (.aload_n 1, 1) := by decide +kernel
theorem dL_law_258 : decode cL_law 258 = .ok (.iconst 0, 1) := by decide +kernel
theorem dL_law_259 : decode cL_law 259 = .ok (.invokestatic 121, 3) := by decide +kernel
theorem dL_law_262 : decode cL_law 262 = .ok (.iconst 4, 1) := by decide +kernel
theorem dL_law_263 : decode cL_law 263 = .ok (.if_icmp .ne 37, 3) := by decide +kernel
theorem dL_law_266 : decode cL_law 266 = .ok (.aload_n 1, 1) := by decide +kernel
theorem dL_law_267 : decode cL_law 267 = .ok (.iconst 4, 1) := by decide +kernel
theorem dL_law_268 : decode cL_law 268 = .ok (.aload_n 3, 1) := by decide +kernel
theorem dL_law_269 : decode cL_law 269 = .ok (.invokestatic 123, 3) := by decide +kernel
theorem dL_law_272 : decode cL_law 272 = .ok (.invokestatic 115, 3) := by decide +kernel
theorem dL_law_275 : decode cL_law 275 = .ok (.ifCond .eq 25, 3) := by decide +kernel
theorem dL_law_278 : decode cL_law 278 = .ok (.aload_n 1, 1) := by decide +kernel
theorem dL_law_279 : decode cL_law 279 = .ok (.iconst 0, 1) := by decide +kernel
theorem dL_law_280 : decode cL_law 280 = .ok (.iconst 4, 1) := by decide +kernel
theorem dL_law_281 : decode cL_law 281 = .ok (.invokestatic 119, 3) := by decide +kernel
theorem dL_law_284 : decode cL_law 284 = .ok (.iconst 5, 1) := by decide +kernel
theorem dL_law_285 : decode cL_law 285 = .ok (.if_icmp .ne 15, 3) := by decide +kernel
theorem dL_law_288 : decode cL_law 288 = .ok (.aload_n 1, 1) := by decide +kernel
theorem dL_law_289 : decode cL_law 289 = .ok (.iconst 5, 1) := by decide +kernel
theorem dL_law_290 : decode cL_law 290 = .ok (.invokestatic 97, 3) := by decide +kernel
theorem dL_law_293 : decode cL_law 293 = .ok (.ifCond .ne 7, 3) := by decide +kernel
theorem dL_law_296 : decode cL_law 296 = .ok (.iconst 1, 1) := by decide +kernel
theorem dL_law_297 : decode cL_law 297 = .ok (.goto 4, 3) := by decide +kernel
theorem dL_law_300 : decode cL_law 300 = .ok (.iconst 0, 1) := by decide +kernel
theorem dL_law_301 : decode cL_law 301 = .ok (.iand, 1) := by decide +kernel
theorem dL_law_302 : decode cL_law 302 = .ok (.istore_n 2, 1) := by decide +kernel
theorem dL_law_303 : decode cL_law 303 = .ok (.aload_n 3, 1) := by decide +kernel
theorem dL_law_304 : decode cL_law 304 = .ok (.arraylength, 1) := by decide +kernel
theorem dL_law_305 : decode cL_law 305 = .ok (.aload 4, 2) := by decide +kernel
theorem dL_law_307 : decode cL_law 307 = .ok (.arraylength, 1) := by decide +kernel
theorem dL_law_308 : decode cL_law 308 = .ok (.if_icmp .ge 7, 3) := by decide +kernel
theorem dL_law_311 : decode cL_law 311 = .ok (.iconst (-1), 1) := by decide +kernel
theorem dL_law_312 : decode cL_law 312 = .ok (.goto 16, 3) := by decide +kernel
theorem dL_law_315 : decode cL_law 315 = .ok (.aload_n 3, 1) := by decide +kernel
theorem dL_law_316 : decode cL_law 316 = .ok (.arraylength, 1) := by decide +kernel
theorem dL_law_317 : decode cL_law 317 = .ok (.aload 4, 2) := by decide +kernel
theorem dL_law_319 : decode cL_law 319 = .ok (.arraylength, 1) := by decide +kernel
theorem dL_law_320 : decode cL_law 320 = .ok (.if_icmp .le 7, 3) := by decide +kernel
theorem dL_law_323 : decode cL_law 323 = .ok (.iconst 1, 1) := by decide +kernel
theorem dL_law_324 : decode cL_law 324 = .ok (.goto 4, 3) := by decide +kernel
theorem dL_law_327 : decode cL_law 327 = .ok (.iconst 0, 1) := by decide +kernel
theorem dL_law_328 : decode cL_law 328 = .ok (.istore 7, 2) := by decide +kernel
theorem dL_law_330 : decode cL_law 330 = .ok (.iconst 0, 1) := by decide +kernel
theorem dL_law_331 : decode cL_law 331 = .ok (.istore 8, 2) := by decide +kernel
theorem dL_law_333 : decode cL_law 333 = .ok (.iload 8, 2) := by decide +kernel
theorem dL_law_335 : decode cL_law 335 = .ok (.aload_n 3, 1) := by decide +kernel
theorem dL_law_336 : decode cL_law 336 = .ok (.arraylength, 1) := by decide +kernel
theorem dL_law_337 : decode cL_law 337 = .ok (.if_icmp .ge 49, 3) := by decide +kernel
theorem dL_law_340 : decode cL_law 340 = .ok (.iload 7, 2) := by decide +kernel
theorem dL_law_342 : decode cL_law 342 = .ok (.ifCond .ne 44, 3) := by decide +kernel
theorem dL_law_345 : decode cL_law 345 = .ok (.aload_n 3, 1) := by decide +kernel
theorem dL_law_346 : decode cL_law 346 = .ok (.iload 8, 2) := by decide +kernel
theorem dL_law_348 : decode cL_law 348 = .ok (.iaload, 1) := by decide +kernel
theorem dL_law_349 : decode cL_law 349 = .ok (.aload 4, 2) := by decide +kernel
theorem dL_law_351 : decode cL_law 351 = .ok (.iload 8, 2) := by decide +kernel
theorem dL_law_353 : decode cL_law 353 = .ok (.iaload, 1) := by decide +kernel
theorem dL_law_354 : decode cL_law 354 = .ok (.if_icmp .ge 7, 3) := by decide +kernel
theorem dL_law_357 : decode cL_law 357 = .ok (.iconst (-1), 1) := by decide +kernel
theorem dL_law_358 : decode cL_law 358 = .ok (.goto 20, 3) := by decide +kernel
theorem dL_law_361 : decode cL_law 361 = .ok (.aload_n 3, 1) := by decide +kernel
theorem dL_law_362 : decode cL_law 362 = .ok (.iload 8, 2) := by decide +kernel
theorem dL_law_364 : decode cL_law 364 = .ok (.iaload, 1) := by decide +kernel
theorem dL_law_365 : decode cL_law 365 = .ok (.aload 4, 2) := by decide +kernel
theorem dL_law_367 : decode cL_law 367 = .ok (.iload 8, 2) := by decide +kernel
theorem dL_law_369 : decode cL_law 369 = .ok (.iaload, 1) := by decide +kernel
theorem dL_law_370 : decode cL_law 370 = .ok (.if_icmp .le 7, 3) := by decide +kernel
theorem dL_law_373 : decode cL_law 373 = .ok (.iconst 1, 1) := by decide +kernel
theorem dL_law_374 : decode cL_law 374 = .ok (.goto 4, 3) := by decide +kernel
theorem dL_law_377 : decode cL_law 377 = .ok (.iconst 0, 1) := by decide +kernel
theorem dL_law_378 : decode cL_law 378 = .ok (.istore 7, 2) := by decide +kernel
theorem dL_law_380 : decode cL_law 380 = .ok (.iinc 8 1, 3) := by decide +kernel
theorem dL_law_383 : decode cL_law 383 = .ok (.goto (-50), 3) := by decide +kernel
theorem dL_law_386 : decode cL_law 386 = .ok (.iload_n 2, 1) := by decide +kernel
theorem dL_law_387 : decode cL_law 387 = .ok (.aload_n 1, 1) := by decide +kernel
theorem dL_law_388 : decode cL_law 388 = .ok (.iconst 0, 1) := by decide +kernel
theorem dL_law_389 : decode cL_law 389 = .ok (.iconst 1, 1) := by decide +kernel
theorem dL_law_390 : decode cL_law 390 = .ok (.invokestatic 127, 3) := by decide +kernel
theorem dL_law_393 : decode cL_law 393 = .ok (.iload 7, 2) := by decide +kernel
theorem dL_law_395 : decode cL_law 395 = .ok (.if_icmp .ne 40, 3) := by decide +kernel
theorem dL_law_398 : decode cL_law 398 = .ok (.aload_n 1, 1) := by decide +kernel
theorem dL_law_399 : decode cL_law 399 = .ok (.iconst 1, 1) := by decide +kernel
theorem dL_law_400 : decode cL_law 400 = .ok (.iconst 0, 1) := by decide +kernel
theorem dL_law_401 : decode cL_law 401 = .ok (.invokestatic 127, 3) := by decide +kernel
theorem dL_law_404 : decode cL_law 404 = .ok (.iload 7, 2) := by decide +kernel
theorem dL_law_406 : decode cL_law 406 = .ok (.ineg, 1) := by decide +kernel
theorem dL_law_407 : decode cL_law 407 = .ok (.if_icmp .ne 28, 3) := by decide +kernel
theorem dL_law_410 : decode cL_law 410 = .ok (.aload_n 1, 1) := by decide +kernel
theorem dL_law_411 : decode cL_law 411 = .ok (.iconst 0, 1) := by decide +kernel
theorem dL_law_412 : decode cL_law 412 = .ok (.iconst 0, 1) := by decide +kernel
theorem dL_law_413 : decode cL_law 413 = .ok (.invokestatic 127, 3) := by decide +kernel
theorem dL_law_416 : decode cL_law 416 = .ok (.ifCond .ne 19, 3) := by decide +kernel
theorem dL_law_419 : decode cL_law 419 = .ok (.aload_n 1, 1) := by decide +kernel
theorem dL_law_420 : decode cL_law 420 = .ok (.iconst 0, 1) := by decide +kernel
theorem dL_law_421 : decode cL_law 421 = .ok (.bipush 9, 2) := by decide +kernel
theorem dL_law_423 : decode cL_law 423 = .ok (.invokestatic 127, 3) := by decide +kernel
theorem dL_law_426 : decode cL_law 426 = .ok (.ldc 17, 2) := by decide +kernel
theorem dL_law_428 : decode cL_law 428 = .ok (.if_icmp .ne 7, 3) := by decide +kernel
theorem dL_law_431 : decode cL_law 431 = .ok (.iconst 1, 1) := by decide +kernel
theorem dL_law_432 : decode cL_law 432 = .ok (.goto 4, 3) := by decide +kernel
theorem dL_law_435 : decode cL_law 435 = .ok (.iconst 0, 1) := by decide +kernel
theorem dL_law_436 : decode cL_law 436 = .ok (.iand, 1) := by decide +kernel
theorem dL_law_437 : decode cL_law 437 = .ok (.istore_n 2, 1) := by decide +kernel
theorem dL_law_438 : decode cL_law 438 = .ok (.aload_n 0, 1) := by decide +kernel
theorem dL_law_439 : decode cL_law 439 = .ok (.bipush 103, 2) := by decide +kernel
theorem dL_law_441 : decode cL_law 441 = .ok (.bipush 13, 2) := by decide +kernel
theorem dL_law_443 : decode cL_law 443 = .ok (.invokestatic 75, 3) := by decide +kernel
theorem dL_law_446 : decode cL_law 446 = .ok (.bipush 6, 2) := by decide +kernel
theorem dL_law_448 : decode cL_law 448 = .ok (.isub, 1) := by decide +kernel
theorem dL_law_449 : decode cL_law 449 = .ok (.istore 8, 2) := by decide +kernel
theorem dL_law_451 : decode cL_law 451 = .ok (.iconst 0, 1) := by decide +kernel
theorem dL_law_452 : decode cL_law 452 = .ok (.newarray .int, 2) := by decide +kernel
theorem dL_law_454 : decode cL_law 454 = .ok (.astore 9, 2) := by decide +kernel
theorem dL_law_456 : decode cL_law 456 = .ok (.iconst 0, 1) := by decide +kernel
theorem dL_law_457 : decode cL_law 457 = .ok (.istore 10, 2) := by decide +kernel
theorem dL_law_459 : decode cL_law 459 = .ok (.iload 10, 2) := by decide +kernel
theorem dL_law_461 : decode cL_law 461 = .ok (.iload 8, 2) := by decide +kernel
theorem dL_law_463 : decode cL_law 463 = .ok (.ifCond .ge 9, 3) := by decide +kernel
theorem dL_law_466 : decode cL_law 466 = .ok (.iload 8, 2) := by decide +kernel
theorem dL_law_468 : decode cL_law 468 = .ok (.ineg, 1) := by decide +kernel
theorem dL_law_469 : decode cL_law 469 = .ok (.goto 5, 3) := by decide +kernel
theorem dL_law_472 : decode cL_law 472 = .ok (.iload 8, 2) := by decide +kernel
theorem dL_law_474 : decode cL_law 474 = .ok (.if_icmp .ge 29, 3) := by decide +kernel
theorem dL_law_477 : decode cL_law 477 = .ok (.aload 9, 2) := by decide +kernel
theorem dL_law_479 : decode cL_law 479 = .ok (.iload 8, 2) := by decide +kernel
theorem dL_law_481 : decode cL_law 481 = .ok (.ifCond .ge 10, 3) := by decide +kernel
theorem dL_law_484 : decode cL_law 484 = .ok (.aload_n 3, 1) := by decide +kernel
theorem dL_law_485 : decode cL_law 485 = .ok (.invokestatic 123, 3) := by decide +kernel
theorem dL_law_488 : decode cL_law 488 = .ok (.goto 4, 3) := by decide +kernel
theorem dL_law_491 : decode cL_law 491 = .ok (.aload_n 3, 1) := by decide +kernel
theorem dL_law_492 : decode cL_law 492 = .ok (.invokestatic 79, 3) := by decide +kernel
theorem dL_law_495 : decode cL_law 495 = .ok (.astore 9, 2) := by decide +kernel
theorem dL_law_497 : decode cL_law 497 = .ok (.iinc 10 1, 3) := by decide +kernel
theorem dL_law_500 : decode cL_law 500 = .ok (.goto (-41), 3) := by decide +kernel
theorem dL_law_503 : decode cL_law 503 = .ok (.iload_n 2, 1) := by decide +kernel
theorem dL_law_504 : decode cL_law 504 = .ok (.aload_n 1, 1) := by decide +kernel
theorem dL_law_505 : decode cL_law 505 = .ok (.iconst 0, 1) := by decide +kernel
theorem dL_law_506 : decode cL_law 506 = .ok (.bipush 7, 2) := by decide +kernel
theorem dL_law_508 : decode cL_law 508 = .ok (.invokestatic 129, 3) := by decide +kernel
theorem dL_law_511 : decode cL_law 511 = .ok (.ldc 20, 2) := by decide +kernel
theorem dL_law_513 : decode cL_law 513 = .ok (.if_icmp .ne 32, 3) := by decide +kernel
theorem dL_law_516 : decode cL_law 516 = .ok (.aload_n 1, 1) := by decide +kernel
theorem dL_law_517 : decode cL_law 517 = .ok (.iconst 0, 1) := by decide +kernel
theorem dL_law_518 : decode cL_law 518 = .ok (.iload 8, 2) := by decide +kernel
theorem dL_law_520 : decode cL_law 520 = .ok (.invokestatic 129, 3) := by decide +kernel
theorem dL_law_523 : decode cL_law 523 = .ok (.aload 9, 2) := by decide +kernel
theorem dL_law_525 : decode cL_law 525 = .ok (.arraylength, 1) := by decide +kernel
theorem dL_law_526 : decode cL_law 526 = .ok (.bipush 60, 2) := by decide +kernel
theorem dL_law_528 : decode cL_law 528 = .ok (.if_icmp .le 8, 3) := by decide +kernel
theorem dL_law_531 : decode cL_law 531 = .ok (.ldc 50, 2) := by decide +kernel
theorem dL_law_533 : decode cL_law 533 = .ok (.goto 5, 3) := by decide +kernel
theorem dL_law_536 : decode cL_law 536 = .ok (.bipush 6, 2) := by decide +kernel
theorem dL_law_538 : decode cL_law 538 = .ok (.if_icmp .ne 7, 3) := by decide +kernel
theorem dL_law_541 : decode cL_law 541 = .ok (.iconst 1, 1) := by decide +kernel
theorem dL_law_542 : decode cL_law 542 = .ok (.goto 4, 3) := by decide +kernel
theorem dL_law_545 : decode cL_law 545 = .ok (.iconst 0, 1) := by decide +kernel
theorem dL_law_546 : decode cL_law 546 = .ok (.iand, 1) := by decide +kernel
theorem dL_law_547 : decode cL_law 547 = .ok (.istore_n 2, 1) := by decide +kernel
theorem dL_law_548 : decode cL_law 548 = .ok (.aload 9, 2) := by decide +kernel
theorem dL_law_550 : decode cL_law 550 = .ok (.arraylength, 1) := by decide +kernel
theorem dL_law_551 : decode cL_law 551 = .ok (.bipush 60, 2) := by decide +kernel
theorem dL_law_553 : decode cL_law 553 = .ok (.if_icmp .le 8, 3) := by decide +kernel
theorem dL_law_556 : decode cL_law 556 = .ok (.bipush 6, 2) := by decide +kernel
theorem dL_law_558 : decode cL_law 558 = .ok (.goto 5, 3) := by decide +kernel
theorem dL_law_561 : decode cL_law 561 = .ok (.bipush 7, 2) := by decide +kernel
theorem dL_law_563 : decode cL_law 563 = .ok (.istore 10, 2) := by decide +kernel
theorem dL_law_565 : decode cL_law 565 = .ok (.iload_n 2, 1) := by decide +kernel
theorem dL_law_566 : decode cL_law 566 = .ok (.iload 10, 2) := by decide +kernel
theorem dL_law_568 : decode cL_law 568 = .ok (.bipush 6, 2) := by decide +kernel
theorem dL_law_570 : decode cL_law 570 = .ok (.if_icmp .eq 14, 3) := by decide +kernel
theorem dL_law_573 : decode cL_law 573 = .ok (.aload_n 1, 1) := by decide +kernel
theorem dL_law_574 : decode cL_law 574 = .ok (.bipush 6, 2) := by decide +kernel
theorem dL_law_576 : decode cL_law 576 = .ok (.aload 9, 2) := by decide +kernel
theorem dL_law_578 : decode cL_law 578 = .ok (.invokestatic 115, 3) := by decide +kernel
theorem dL_law_581 : decode cL_law 581 = .ok (.ifCond .eq 7, 3) := by decide +kernel
theorem dL_law_584 : decode cL_law 584 = .ok (.iconst 1, 1) := by decide +kernel
theorem dL_law_585 : decode cL_law 585 = .ok (.goto 4, 3) := by decide +kernel
theorem dL_law_588 : decode cL_law 588 = .ok (.iconst 0, 1) := by decide +kernel
theorem dL_law_589 : decode cL_law 589 = .ok (.iand, 1) := by decide +kernel
theorem dL_law_590 : decode cL_law 590 = .ok (.istore_n 2, 1) := by decide +kernel
theorem dL_law_591 : decode cL_law 591 = .ok (.iconst 0, 1) := by decide +kernel
theorem dL_law_592 : decode cL_law 592 = .ok (.istore 11, 2) := by decide +kernel
theorem dL_law_594 : decode cL_law 594 = .ok (.iconst 2, 1) := by decide +kernel
theorem dL_law_595 : decode cL_law 595 = .ok (.iload 11, 2) := by decide +kernel
theorem dL_law_597 : decode cL_law 597 = .ok (.imul, 1) := by decide +kernel
theorem dL_law_598 : decode cL_law 598 = .ok (.iconst 1, 1) := by decide +kernel
theorem dL_law_599 : decode cL_law 599 = .ok (.iadd, 1) := by decide +kernel
theorem dL_law_600 : decode cL_law 600 = .ok (.aload_n 3, 1) := by decide +kernel
theorem dL_law_601 : decode cL_law 601 = .ok (.arraylength, 1) := by decide +kernel
theorem dL_law_602 : decode cL_law 602 = .ok (.if_icmp .ge 27, 3) := by decide +kernel
theorem dL_law_605 : decode cL_law 605 = .ok (.aload_n 3, 1) := by decide +kernel
theorem dL_law_606 : decode cL_law 606 = .ok (.iload 11, 2) := by decide +kernel
theorem dL_law_608 : decode cL_law 608 = .ok (.iaload, 1) := by decide +kernel
theorem dL_law_609 : decode cL_law 609 = .ok (.iconst 1, 1) := by decide +kernel
theorem dL_law_610 : decode cL_law 610 = .ok (.ixor, 1) := by decide +kernel
theorem dL_law_611 : decode cL_law 611 = .ok (.aload_n 3, 1) := by decide +kernel
theorem dL_law_612 : decode cL_law 612 = .ok (.aload_n 3, 1) := by decide +kernel
theorem dL_law_613 : decode cL_law 613 = .ok (.arraylength, 1) := by decide +kernel
theorem dL_law_614 : decode cL_law 614 = .ok (.iconst 1, 1) := by decide +kernel
theorem dL_law_615 : decode cL_law 615 = .ok (.isub, 1) := by decide +kernel
theorem dL_law_616 : decode cL_law 616 = .ok (.iload 11, 2) := by decide +kernel
theorem dL_law_618 : decode cL_law 618 = .ok (.isub, 1) := by decide +kernel
theorem dL_law_619 : decode cL_law 619 = .ok (.iaload, 1) := by decide +kernel
theorem dL_law_620 : decode cL_law 620 = .ok (.if_icmp .ne 9, 3) := by decide +kernel
theorem dL_law_623 : decode cL_law 623 = .ok (.iinc 11 1, 3) := by decide +kernel
theorem dL_law_626 : decode cL_law 626 = .ok (.goto (-32), 3) := by decide +kernel
theorem dL_law_629 : decode cL_law 629 = .ok (.aload_n 3, 1) := by decide +kernel
theorem dL_law_630 : decode cL_law 630 = .ok (.arraylength, 1) := by decide +kernel
theorem dL_law_631 : decode cL_law 631 = .ok (.iconst 2, 1) := by decide +kernel
theorem dL_law_632 : decode cL_law 632 = .ok (.iload 11, 2) := by decide +kernel
theorem dL_law_634 : decode cL_law 634 = .ok (.imul, 1) := by decide +kernel
theorem dL_law_635 : decode cL_law 635 = .ok (.isub, 1) := by decide +kernel
theorem dL_law_636 : decode cL_law 636 = .ok (.istore 12, 2) := by decide +kernel
theorem dL_law_638 : decode cL_law 638 = .ok (.iconst 0, 1) := by decide +kernel
theorem dL_law_639 : decode cL_law 639 = .ok (.istore 13, 2) := by decide +kernel
theorem dL_law_641 : decode cL_law 641 = .ok (.iconst 1, 1) := by decide +kernel
theorem dL_law_642 : decode cL_law 642 = .ok (.istore 14, 2) := by decide +kernel
theorem dL_law_644 : decode cL_law 644 = .ok (.iload 14, 2) := by decide +kernel
theorem dL_law_646 : decode cL_law 646 = .ok (.iload 12, 2) := by decide +kernel
theorem dL_law_648 : decode cL_law 648 = .ok (.if_icmp .gt 97, 3) := by decide +kernel
theorem dL_law_651 : decode cL_law 651 = .ok (.iload 12, 2) := by decide +kernel
theorem dL_law_653 : decode cL_law 653 = .ok (.iload 14, 2) := by decide +kernel
theorem dL_law_655 : decode cL_law 655 = .ok (.irem, 1) := by decide +kernel
theorem dL_law_656 : decode cL_law 656 = .ok (.ifCond .ne 7, 3) := by decide +kernel
theorem dL_law_659 : decode cL_law 659 = .ok (.iconst 1, 1) := by decide +kernel
theorem dL_law_660 : decode cL_law 660 = .ok (.goto 4, 3) := by decide +kernel
theorem dL_law_663 : decode cL_law 663 = .ok (.iconst 0, 1) := by decide +kernel
theorem dL_law_664 : decode cL_law 664 = .ok (.istore 15, 2) := by decide +kernel
theorem dL_law_666 : decode cL_law 666 = .ok (.iconst 0, 1) := by decide +kernel
theorem dL_law_667 : decode cL_law 667 = .ok (.istore 16, 2) := by decide +kernel
theorem dL_law_669 : decode cL_law 669 = .ok (.iload 16, 2) := by decide +kernel
theorem dL_law_671 : decode cL_law 671 = .ok (.iload 14, 2) := by decide +kernel
theorem dL_law_673 : decode cL_law 673 = .ok (.iadd, 1) := by decide +kernel
theorem dL_law_674 : decode cL_law 674 = .ok (.iload 12, 2) := by decide +kernel
theorem dL_law_676 : decode cL_law 676 = .ok (.if_icmp .ge 41, 3) := by decide +kernel
theorem dL_law_679 : decode cL_law 679 = .ok (.iload 15, 2) := by decide +kernel
theorem dL_law_681 : decode cL_law 681 = .ok (.ifCond .eq 36, 3) := by decide +kernel
theorem dL_law_684 : decode cL_law 684 = .ok (.aload_n 3, 1) := by decide +kernel
theorem dL_law_685 : decode cL_law 685 = .ok (.iload 11, 2) := by decide +kernel
theorem dL_law_687 : decode cL_law 687 = .ok (.iload 16, 2) := by decide +kernel
theorem dL_law_689 : decode cL_law 689 = .ok (.iadd, 1) := by decide +kernel
theorem dL_law_690 : decode cL_law 690 = .ok (.iaload, 1) := by decide +kernel
theorem dL_law_691 : decode cL_law 691 = .ok (.aload_n 3, 1) := by decide +kernel
theorem dL_law_692 : decode cL_law 692 = .ok (.iload 11, 2) := by decide +kernel
theorem dL_law_694 : decode cL_law 694 = .ok (.iload 16, 2) := by decide +kernel
theorem dL_law_696 : decode cL_law 696 = .ok (.iadd, 1) := by decide +kernel
theorem dL_law_697 : decode cL_law 697 = .ok (.iload 14, 2) := by decide +kernel
theorem dL_law_699 : decode cL_law 699 = .ok (.iadd, 1) := by decide +kernel
theorem dL_law_700 : decode cL_law 700 = .ok (.iaload, 1) := by decide +kernel
theorem dL_law_701 : decode cL_law 701 = .ok (.if_icmp .ne 7, 3) := by decide +kernel
theorem dL_law_704 : decode cL_law 704 = .ok (.iconst 1, 1) := by decide +kernel
theorem dL_law_705 : decode cL_law 705 = .ok (.goto 4, 3) := by decide +kernel
theorem dL_law_708 : decode cL_law 708 = .ok (.iconst 0, 1) := by decide +kernel
theorem dL_law_709 : decode cL_law 709 = .ok (.istore 15, 2) := by decide +kernel
theorem dL_law_711 : decode cL_law 711 = .ok (.iinc 16 1, 3) := by decide +kernel
theorem dL_law_714 : decode cL_law 714 = .ok (.goto (-45), 3) := by decide +kernel
theorem dL_law_717 : decode cL_law 717 = .ok (.iload 15, 2) := by decide +kernel
theorem dL_law_719 : decode cL_law 719 = .ok (.ifCond .eq 16, 3) := by decide +kernel
theorem dL_law_722 : decode cL_law 722 = .ok (.iload 13, 2) := by decide +kernel
theorem dL_law_724 : decode cL_law 724 = .ok (.ifCond .ne 11, 3) := by decide +kernel
theorem dL_law_727 : decode cL_law 727 = .ok (.iload 12, 2) := by decide +kernel
theorem dL_law_729 : decode cL_law 729 = .ok (.iload 14, 2) := by decide +kernel
theorem dL_law_731 : decode cL_law 731 = .ok (.idiv, 1) := by decide +kernel
theorem dL_law_732 : decode cL_law 732 = .ok (.goto 5, 3) := by decide +kernel
theorem dL_law_735 : decode cL_law 735 = .ok (.iload 13, 2) := by decide +kernel
theorem dL_law_737 : decode cL_law 737 = .ok (.istore 13, 2) := by decide +kernel
theorem dL_law_739 : decode cL_law 739 = .ok (.iinc 14 1, 3) := by decide +kernel
theorem dL_law_742 : decode cL_law 742 = .ok (.goto (-98), 3) := by decide +kernel
theorem dL_law_745 : decode cL_law 745 = .ok (.iload_n 2, 1) := by decide +kernel
theorem dL_law_746 : decode cL_law 746 = .ok (.aload_n 1, 1) := by decide +kernel
theorem dL_law_747 : decode cL_law 747 = .ok (.iconst 0, 1) := by decide +kernel
theorem dL_law_748 : decode cL_law 748 = .ok (.invokestatic 131, 3) := by decide +kernel
theorem dL_law_751 : decode cL_law 751 = .ok (.iload 12, 2) := by decide +kernel
theorem dL_law_753 : decode cL_law 753 = .ok (.if_icmp .ne 27, 3) := by decide +kernel
theorem dL_law_756 : decode cL_law 756 = .ok (.aload_n 1, 1) := by decide +kernel
theorem dL_law_757 : decode cL_law 757 = .ok (.iconst 0, 1) := by decide +kernel
theorem dL_law_758 : decode cL_law 758 = .ok (.invokestatic 133, 3) := by decide +kernel
theorem dL_law_761 : decode cL_law 761 = .ok (.iload 12, 2) := by decide +kernel
theorem dL_law_763 : decode cL_law 763 = .ok (.ifCond .ne 8, 3) := by decide +kernel
theorem dL_law_766 : decode cL_law 766 = .ok (.ldc 20, 2) := by decide +kernel
theorem dL_law_768 : decode cL_law 768 = .ok (.goto 5, 3) := by decide +kernel
theorem dL_law_771 : decode cL_law 771 = .ok (.iload 13, 2) := by decide +kernel
theorem dL_law_773 : decode cL_law 773 = .ok (.if_icmp .ne 7, 3) := by decide +kernel
theorem dL_law_776 : decode cL_law 776 = .ok (.iconst 1, 1) := by decide +kernel
theorem dL_law_777 : decode cL_law 777 = .ok (.goto 4, 3) := by decide +kernel
theorem dL_law_780 : decode cL_law 780 = .ok (.iconst 0, 1) := by decide +kernel
theorem dL_law_781 : decode cL_law 781 = .ok (.iand, 1) := by decide +kernel
theorem dL_law_782 : decode cL_law 782 = .ok (.istore_n 2, 1) := by decide +kernel
theorem dL_law_783 : decode cL_law 783 = .ok (.iconst 0, 1) := by decide +kernel
theorem dL_law_784 : decode cL_law 784 = .ok (.istore 14, 2) := by decide +kernel
theorem dL_law_786 : decode cL_law 786 = .ok (.iload 14, 2) := by decide +kernel
theorem dL_law_788 : decode cL_law 788 = .ok (.bipush 6, 2) := by decide +kernel
theorem dL_law_790 : decode cL_law 790 = .ok (.if_icmp .ge 98, 3) := by decide +kernel
theorem dL_law_793 : decode cL_law 793 = .ok (.iconst 0, 1) := by decide +kernel
theorem dL_law_794 : decode cL_law 794 = .ok (.istore 15, 2) := by decide +kernel
theorem dL_law_796 : decode cL_law 796 = .ok (.aload_n 3, 1) := by decide +kernel
theorem dL_law_797 : decode cL_law 797 = .ok (.astore 16, 2) := by decide +kernel
theorem dL_law_799 : decode cL_law 799 = .ok (.aload 16, 2) := by decide +kernel
theorem dL_law_801 : decode cL_law 801 = .ok (.arraylength, 1) := by decide +kernel
theorem dL_law_802 : decode cL_law 802 = .ok (.istore 17, 2) := by decide +kernel
theorem dL_law_804 : decode cL_law 804 = .ok (.iconst 0, 1) := by decide +kernel
theorem dL_law_805 : decode cL_law 805 = .ok (.istore 18, 2) := by decide +kernel
theorem dL_law_807 : decode cL_law 807 = .ok (.iload 18, 2) := by decide +kernel
theorem dL_law_809 : decode cL_law 809 = .ok (.iload 17, 2) := by decide +kernel
theorem dL_law_811 : decode cL_law 811 = .ok (.if_icmp .ge 46, 3) := by decide +kernel
theorem dL_law_814 : decode cL_law 814 = .ok (.aload 16, 2) := by decide +kernel
theorem dL_law_816 : decode cL_law 816 = .ok (.iload 18, 2) := by decide +kernel
theorem dL_law_818 : decode cL_law 818 = .ok (.iaload, 1) := by decide +kernel
theorem dL_law_819 : decode cL_law 819 = .ok (.istore 19, 2) := by decide +kernel
theorem dL_law_821 : decode cL_law 821 = .ok (.iload 15, 2) := by decide +kernel
theorem dL_law_823 : decode cL_law 823 = .ok (.iload 19, 2) := by decide +kernel
theorem dL_law_825 : decode cL_law 825 = .ok (.iload 14, 2) := by decide +kernel
theorem dL_law_827 : decode cL_law 827 = .ok (.if_icmp .ne 7, 3) := by decide +kernel
theorem dL_law_830 : decode cL_law 830 = .ok (.iconst 1, 1) := by decide +kernel
theorem dL_law_831 : decode cL_law 831 = .ok (.goto 17, 3) := by decide +kernel
theorem dL_law_834 : decode cL_law 834 = .ok (.iload 19, 2) := by decide +kernel
theorem dL_law_836 : decode cL_law 836 = .ok (.iload 14, 2) := by decide +kernel
theorem dL_law_838 : decode cL_law 838 = .ok (.iconst 1, 1) := by decide +kernel
theorem dL_law_839 : decode cL_law 839 = .ok (.ixor, 1) := by decide +kernel
theorem dL_law_840 : decode cL_law 840 = .ok (.if_icmp .ne 7, 3) := by decide +kernel
theorem dL_law_843 : decode cL_law 843 = .ok (.iconst (-1), 1) := by decide +kernel
theorem dL_law_844 : decode cL_law 844 = .ok (.goto 4, 3) := by decide +kernel
theorem dL_law_847 : decode cL_law 847 = .ok (.iconst 0, 1) := by decide +kernel
theorem dL_law_848 : decode cL_law 848 = .ok (.iadd, 1) := by decide +kernel
theorem dL_law_849 : decode cL_law 849 = .ok (.istore 15, 2) := by decide +kernel
theorem dL_law_851 : decode cL_law 851 = .ok (.iinc 18 1, 3) := by decide +kernel
theorem dL_law_854 : decode cL_law 854 = .ok (.goto (-47), 3) := by decide +kernel
theorem dL_law_857 : decode cL_law 857 = .ok (.iload_n 2, 1) := by decide +kernel
theorem dL_law_858 : decode cL_law 858 = .ok (.aload_n 1, 1) := by decide +kernel
theorem dL_law_859 : decode cL_law 859 = .ok (.iconst 0, 1) := by decide +kernel
theorem dL_law_860 : decode cL_law 860 = .ok (.ldc 83, 2) := by decide +kernel
theorem dL_law_862 : decode cL_law 862 = .ok (.iload 14, 2) := by decide +kernel
theorem dL_law_864 : decode cL_law 864 = .ok (.invokevirtual 85, 3) := by decide +kernel
theorem dL_law_867 : decode cL_law 867 = .ok (.invokestatic 135, 3) := by decide +kernel
theorem dL_law_870 : decode cL_law 870 = .ok (.iload 15, 2) := by decide +kernel
theorem dL_law_872 : decode cL_law 872 = .ok (.if_icmp .ne 7, 3) := by decide +kernel
theorem dL_law_875 : decode cL_law 875 = .ok (.iconst 1, 1) := by decide +kernel
theorem dL_law_876 : decode cL_law 876 = .ok (.goto 4, 3) := by decide +kernel
theorem dL_law_879 : decode cL_law 879 = .ok (.iconst 0, 1) := by decide +kernel
theorem dL_law_880 : decode cL_law 880 = .ok (.iand, 1) := by decide +kernel
theorem dL_law_881 : decode cL_law 881 = .ok (.istore_n 2, 1) := by decide +kernel
theorem dL_law_882 : decode cL_law 882 = .ok (.iinc 14 1, 3) := by decide +kernel
theorem dL_law_885 : decode cL_law 885 = .ok (.goto (-99), 3) := by decide +kernel
theorem dL_law_888 : decode cL_law 888 = .ok (.aload 4, 2) := by decide +kernel
theorem dL_law_890 : decode cL_law 890 = .ok (.aload_n 3, 1) := by decide +kernel
theorem dL_law_891 : decode cL_law 891 = .ok (.invokestatic 79, 3) := by decide +kernel
theorem dL_law_894 : decode cL_law 894 = .ok (.astore 14, 2) := by decide +kernel
theorem dL_law_896 : decode cL_law 896 = .ok (.aload 14, 2) := by decide +kernel
theorem dL_law_898 : decode cL_law 898 = .ok (.arraylength, 1) := by decide +kernel
theorem dL_law_899 : decode cL_law 899 = .ok (.aload 6, 2) := by decide +kernel
theorem dL_law_901 : decode cL_law 901 = .ok (.arraylength, 1) := by decide +kernel
theorem dL_law_902 : decode cL_law 902 = .ok (.if_icmp .ne 7, 3) := by decide +kernel
theorem dL_law_905 : decode cL_law 905 = .ok (.iconst 1, 1) := by decide +kernel
theorem dL_law_906 : decode cL_law 906 = .ok (.goto 4, 3) := by decide +kernel
theorem dL_law_909 : decode cL_law 909 = .ok (.iconst 0, 1) := by decide +kernel
theorem dL_law_910 : decode cL_law 910 = .ok (.istore 15, 2) := by decide +kernel
theorem dL_law_912 : decode cL_law 912 = .ok (.iconst 0, 1) := by decide +kernel
theorem dL_law_913 : decode cL_law 913 = .ok (.istore 16, 2) := by decide +kernel
theorem dL_law_915 : decode cL_law 915 = .ok (.iload 16, 2) := by decide +kernel
theorem dL_law_917 : decode cL_law 917 = .ok (.aload 6, 2) := by decide +kernel
theorem dL_law_919 : decode cL_law 919 = .ok (.arraylength, 1) := by decide +kernel
theorem dL_law_920 : decode cL_law 920 = .ok (.if_icmp .ge 34, 3) := by decide +kernel
theorem dL_law_923 : decode cL_law 923 = .ok (.iload 15, 2) := by decide +kernel
theorem dL_law_925 : decode cL_law 925 = .ok (.ifCond .eq 29, 3) := by decide +kernel
theorem dL_law_928 : decode cL_law 928 = .ok (.aload 14, 2) := by decide +kernel
theorem dL_law_930 : decode cL_law 930 = .ok (.iload 16, 2) := by decide +kernel
theorem dL_law_932 : decode cL_law 932 = .ok (.iaload, 1) := by decide +kernel
theorem dL_law_933 : decode cL_law 933 = .ok (.aload 6, 2) := by decide +kernel
theorem dL_law_935 : decode cL_law 935 = .ok (.iload 16, 2) := by decide +kernel
theorem dL_law_937 : decode cL_law 937 = .ok (.iaload, 1) := by decide +kernel
theorem dL_law_938 : decode cL_law 938 = .ok (.if_icmp .ne 7, 3) := by decide +kernel
theorem dL_law_941 : decode cL_law 941 = .ok (.iconst 1, 1) := by decide +kernel
theorem dL_law_942 : decode cL_law 942 = .ok (.goto 4, 3) := by decide +kernel
theorem dL_law_945 : decode cL_law 945 = .ok (.iconst 0, 1) := by decide +kernel
theorem dL_law_946 : decode cL_law 946 = .ok (.istore 15, 2) := by decide +kernel
theorem dL_law_948 : decode cL_law 948 = .ok (.iinc 16 1, 3) := by decide +kernel
theorem dL_law_951 : decode cL_law 951 = .ok (.goto (-36), 3) := by decide +kernel
theorem dL_law_954 : decode cL_law 954 = .ok (.iload_n 2, 1) := by decide +kernel
theorem dL_law_955 : decode cL_law 955 = .ok (.aload_n 1, 1) := by decide +kernel
theorem dL_law_956 : decode cL_law 956 = .ok (.iconst 0, 1) := by decide +kernel
theorem dL_law_957 : decode cL_law 957 = .ok (.iconst 1, 1) := by decide +kernel
theorem dL_law_958 : decode cL_law 958 = .ok (.invokestatic 138, 3) := by decide +kernel
theorem dL_law_961 : decode cL_law 961 = .ok (.iload 15, 2) := by decide +kernel
theorem dL_law_963 : decode cL_law 963 = .ok (.ifCond .eq 7, 3) := by decide +kernel
theorem dL_law_966 : decode cL_law 966 = .ok (.iconst 1, 1) := by decide +kernel
theorem dL_law_967 : decode cL_law 967 = .ok (.goto 4, 3) := by decide +kernel
theorem dL_law_970 : decode cL_law 970 = .ok (.iconst 0, 1) := by decide +kernel
theorem dL_law_971 : decode cL_law 971 = .ok (.if_icmp .ne 29, 3) := by decide +kernel
theorem dL_law_974 : decode cL_law 974 = .ok (.aload_n 1, 1) := by decide +kernel
theorem dL_law_975 : decode cL_law 975 = .ok (.iconst 0, 1) := by decide +kernel
theorem dL_law_976 : decode cL_law 976 = .ok (.iconst 4, 1) := by decide +kernel
theorem dL_law_977 : decode cL_law 977 = .ok (.invokestatic 138, 3) := by decide +kernel
theorem dL_law_980 : decode cL_law 980 = .ok (.iconst 1, 1) := by decide +kernel
theorem dL_law_981 : decode cL_law 981 = .ok (.if_icmp .ne 19, 3) := by decide +kernel
theorem dL_law_984 : decode cL_law 984 = .ok (.aload_n 1, 1) := by decide +kernel
theorem dL_law_985 : decode cL_law 985 = .ok (.iconst 0, 1) := by decide +kernel
theorem dL_law_986 : decode cL_law 986 = .ok (.bipush 120, 2) := by decide +kernel
theorem dL_law_988 : decode cL_law 988 = .ok (.invokestatic 135, 3) := by decide +kernel
theorem dL_law_991 : decode cL_law 991 = .ok (.ldc 20, 2) := by decide +kernel
theorem dL_law_993 : decode cL_law 993 = .ok (.if_icmp .ne 7, 3) := by decide +kernel
theorem dL_law_996 : decode cL_law 996 = .ok (.iconst 1, 1) := by decide +kernel
theorem dL_law_997 : decode cL_law 997 = .ok (.goto 4, 3) := by decide +kernel
theorem dL_law_1000 : decode cL_law 1000 = .ok (.iconst 0, 1) := by decide +kernel
theorem dL_law_1001 : decode cL_law 1001 = .ok (.iand, 1) := by decide +kernel
theorem dL_law_1002 : decode cL_law 1002 = .ok (.istore_n 2, 1) := by decide +kernel
theorem dL_law_1003 : decode cL_law 1003 = .ok (.aload 4, 2) := by decide +kernel
theorem dL_law_1005 : decode cL_law 1005 = .ok (.aload_n 3, 1) := by decide +kernel
theorem dL_law_1006 : decode cL_law 1006 = .ok (.invokestatic 79, 3) := by decide +kernel
theorem dL_law_1009 : decode cL_law 1009 = .ok (.aload 4, 2) := by decide +kernel
theorem dL_law_1011 : decode cL_law 1011 = .ok (.invokestatic 123, 3) := by decide +kernel
theorem dL_law_1014 : decode cL_law 1014 = .ok (.invokestatic 79, 3) := by decide +kernel
theorem dL_law_1017 : decode cL_law 1017 = .ok (.astore 16, 2) := by decide +kernel
theorem dL_law_1019 : decode cL_law 1019 = .ok (.iload_n 2, 1) := by decide +kernel
theorem dL_law_1020 : decode cL_law 1020 = .ok (.aload_n 1, 1) := by decide +kernel
theorem dL_law_1021 : decode cL_law 1021 = .ok (.aload 16, 2) := by decide +kernel
theorem dL_law_1023 : decode cL_law 1023 = .ok (.invokestatic 111, 3) := by decide +kernel
theorem dL_law_1026 : decode cL_law 1026 = .ok (.iload 10, 2) := by decide +kernel
theorem dL_law_1028 : decode cL_law 1028 = .ok (.if_icmp .ne 7, 3) := by decide +kernel
theorem dL_law_1031 : decode cL_law 1031 = .ok (.iconst 1, 1) := by decide +kernel
theorem dL_law_1032 : decode cL_law 1032 = .ok (.goto 4, 3) := by decide +kernel
theorem dL_law_1035 : decode cL_law 1035 = .ok (.iconst 0, 1) := by decide +kernel
theorem dL_law_1036 : decode cL_law 1036 = .ok (.iand, 1) := by decide +kernel
theorem dL_law_1037 : decode cL_law 1037 = .ok (.istore_n 2, 1) := by decide +kernel
theorem dL_law_1038 : decode cL_law 1038 = .ok (.aload_n 1, 1) := by decide +kernel
theorem dL_law_1039 : decode cL_law 1039 = .ok (.iconst 0, 1) := by decide +kernel
theorem dL_law_1040 : decode cL_law 1040 = .ok (.iload 10, 2) := by decide +kernel
theorem dL_law_1042 : decode cL_law 1042 = .ok (.invokestatic 140, 3) := by decide +kernel
theorem dL_law_1045 : decode cL_law 1045 = .ok (.istore 17, 2) := by decide +kernel
theorem dL_law_1047 : decode cL_law 1047 = .ok (.iload_n 2, 1) := by decide +kernel
theorem dL_law_1048 : decode cL_law 1048 = .ok (.iload 17, 2) := by decide +kernel
theorem dL_law_1050 : decode cL_law 1050 = .ok (.iload 10, 2) := by decide +kernel
theorem dL_law_1052 : decode cL_law 1052 = .ok (.iconst 1, 1) := by decide +kernel
theorem dL_law_1053 : decode cL_law 1053 = .ok (.iadd, 1) := by decide +kernel
theorem dL_law_1054 : decode cL_law 1054 = .ok (.if_icmp .ne 76, 3) := by decide +kernel
theorem dL_law_1057 : decode cL_law 1057 = .ok (.aload_n 1, 1) := by decide +kernel
theorem dL_law_1058 : decode cL_law 1058 = .ok (.iload 17, 2) := by decide +kernel
theorem dL_law_1060 : decode cL_law 1060 = .ok (.iconst 1, 1) := by decide +kernel
theorem dL_law_1061 : decode cL_law 1061 = .ok (.invokestatic 127, 3) := by decide +kernel
theorem dL_law_1064 : decode cL_law 1064 = .ok (.ifCond .gt 66, 3) := by decide +kernel
theorem dL_law_1067 : decode cL_law 1067 = .ok (.aload_n 1, 1) := by decide +kernel
theorem dL_law_1068 : decode cL_law 1068 = .ok (.iload 17, 2) := by decide +kernel
theorem dL_law_1070 : decode cL_law 1070 = .ok (.iconst 0, 1) := by decide +kernel
theorem dL_law_1071 : decode cL_law 1071 = .ok (.invokestatic 119, 3) := by decide +kernel
theorem dL_law_1074 : decode cL_law 1074 = .ok (.iload 10, 2) := by decide +kernel
theorem dL_law_1076 : decode cL_law 1076 = .ok (.iconst 2, 1) := by decide +kernel
theorem dL_law_1077 : decode cL_law 1077 = .ok (.iadd, 1) := by decide +kernel
theorem dL_law_1078 : decode cL_law 1078 = .ok (.if_icmp .ne 52, 3) := by decide +kernel
theorem dL_law_1081 : decode cL_law 1081 = .ok (.aload_n 1, 1) := by decide +kernel
theorem dL_law_1082 : decode cL_law 1082 = .ok (.iload 17, 2) := by decide +kernel
theorem dL_law_1084 : decode cL_law 1084 = .ok (.invokestatic 121, 3) := by decide +kernel
theorem dL_law_1087 : decode cL_law 1087 = .ok (.iload 10, 2) := by decide +kernel
theorem dL_law_1089 : decode cL_law 1089 = .ok (.iconst 3, 1) := by decide +kernel
theorem dL_law_1090 : decode cL_law 1090 = .ok (.iadd, 1) := by decide +kernel
theorem dL_law_1091 : decode cL_law 1091 = .ok (.if_icmp .ne 39, 3) := by decide +kernel
theorem dL_law_1094 : decode cL_law 1094 = .ok (.aload_n 1, 1) := by decide +kernel
theorem dL_law_1095 : decode cL_law 1095 = .ok (.iload 10, 2) := by decide +kernel
theorem dL_law_1097 : decode cL_law 1097 = .ok (.iconst 2, 1) := by decide +kernel
theorem dL_law_1098 : decode cL_law 1098 = .ok (.iadd, 1) := by decide +kernel
theorem dL_law_1099 : decode cL_law 1099 = .ok (.iload 10, 2) := by decide +kernel
theorem dL_law_1101 : decode cL_law 1101 = .ok (.iconst 3, 1) := by decide +kernel
theorem dL_law_1102 : decode cL_law 1102 = .ok (.iadd, 1) := by decide +kernel
theorem dL_law_1103 : decode cL_law 1103 = .ok (.invokestatic 119, 3) := by decide +kernel
theorem dL_law_1106 : decode cL_law 1106 = .ok (.iload 10, 2) := by decide +kernel
theorem dL_law_1108 : decode cL_law 1108 = .ok (.iconst 4, 1) := by decide +kernel
theorem dL_law_1109 : decode cL_law 1109 = .ok (.iadd, 1) := by decide +kernel
theorem dL_law_1110 : decode cL_law 1110 = .ok (.if_icmp .ne 20, 3) := by decide +kernel
theorem dL_law_1113 : decode cL_law 1113 = .ok (.aload_n 1, 1) := by decide +kernel
theorem dL_law_1114 : decode cL_law 1114 = .ok (.iload 10, 2) := by decide +kernel
theorem dL_law_1116 : decode cL_law 1116 = .ok (.iconst 4, 1) := by decide +kernel
theorem dL_law_1117 : decode cL_law 1117 = .ok (.iadd, 1) := by decide +kernel
theorem dL_law_1118 : decode cL_law 1118 = .ok (.iload 10, 2) := by decide +kernel
theorem dL_law_1120 : decode cL_law 1120 = .ok (.invokestatic 127, 3) := by decide +kernel
theorem dL_law_1123 : decode cL_law 1123 = .ok (.ifCond .ne 7, 3) := by decide +kernel
theorem dL_law_1126 : decode cL_law 1126 = .ok (.iconst 1, 1) := by decide +kernel
theorem dL_law_1127 : decode cL_law 1127 = .ok (.goto 4, 3) := by decide +kernel
theorem dL_law_1130 : decode cL_law 1130 = .ok (.iconst 0, 1) := by decide +kernel
theorem dL_law_1131 : decode cL_law 1131 = .ok (.iand, 1) := by decide +kernel
theorem dL_law_1132 : decode cL_law 1132 = .ok (.istore_n 2, 1) := by decide +kernel
theorem dL_law_1133 : decode cL_law 1133 = .ok (.aload_n 3, 1) := by decide +kernel
theorem dL_law_1134 : decode cL_law 1134 = .ok (.iconst 1, 1) := by decide +kernel
theorem dL_law_1135 : decode cL_law 1135 = .ok (.newarray .int, 2) := by decide +kernel
theorem dL_law_1137 : decode cL_law 1137 = .ok (.dup, 1) := by decide +kernel
theorem dL_law_1138 : decode cL_law 1138 = .ok (.iconst 0, 1) := by decide +kernel
theorem dL_law_1139 : decode cL_law 1139 = .ok (.aload_n 3, 1) := by decide +kernel
theorem dL_law_1140 : decode cL_law 1140 = .ok (.arraylength, 1) := by decide +kernel
theorem dL_law_1141 : decode cL_law 1141 = .ok (.ifCond .le 12, 3) := by decide +kernel
theorem dL_law_1144 : decode cL_law 1144 = .ok (.aload_n 3, 1) := by decide +kernel
theorem dL_law_1145 : decode cL_law 1145 = .ok (.aload_n 3, 1) := by decide +kernel
theorem dL_law_1146 : decode cL_law 1146 = .ok (.arraylength, 1) := by decide +kernel
theorem dL_law_1147 : decode cL_law 1147 = .ok (.iconst 1, 1) := by decide +kernel
theorem dL_law_1148 : decode cL_law 1148 = .ok (.isub, 1) := by decide +kernel
theorem dL_law_1149 : decode cL_law 1149 = .ok (.iaload, 1) := by decide +kernel
theorem dL_law_1150 : decode cL_law 1150 = .ok (.goto 4, 3) := by decide +kernel
theorem dL_law_1153 : decode cL_law 1153 = .ok (.iconst 0, 1) := by decide +kernel
theorem dL_law_1154 : decode cL_law 1154 = .ok (.iastore, 1) := by decide +kernel
theorem dL_law_1155 : decode cL_law 1155 = .ok (.invokestatic 79, 3) := by decide +kernel
theorem dL_law_1158 : decode cL_law 1158 = .ok (.astore 18, 2) := by decide +kernel
theorem dL_law_1160 : decode cL_law 1160 = .ok (.iload_n 2, 1) := by decide +kernel
theorem dL_law_1161 : decode cL_law 1161 = .ok (.aload_n 1, 1) := by decide +kernel
theorem dL_law_1162 : decode cL_law 1162 = .ok (.aload 18, 2) := by decide +kernel
theorem dL_law_1164 : decode cL_law 1164 = .ok (.invokestatic 111, 3) := by decide +kernel
theorem dL_law_1167 : decode cL_law 1167 = .ok (.iload 10, 2) := by decide +kernel
theorem dL_law_1169 : decode cL_law 1169 = .ok (.iconst 5, 1) := by decide +kernel
theorem dL_law_1170 : decode cL_law 1170 = .ok (.iadd, 1) := by decide +kernel
theorem dL_law_1171 : decode cL_law 1171 = .ok (.if_icmp .ne 46, 3) := by decide +kernel
theorem dL_law_1174 : decode cL_law 1174 = .ok (.aload_n 1, 1) := by decide +kernel
theorem dL_law_1175 : decode cL_law 1175 = .ok (.iconst 0, 1) := by decide +kernel
theorem dL_law_1176 : decode cL_law 1176 = .ok (.iload 10, 2) := by decide +kernel
theorem dL_law_1178 : decode cL_law 1178 = .ok (.iconst 5, 1) := by decide +kernel
theorem dL_law_1179 : decode cL_law 1179 = .ok (.iadd, 1) := by decide +kernel
theorem dL_law_1180 : decode cL_law 1180 = .ok (.invokestatic 140, 3) := by decide +kernel
theorem dL_law_1183 : decode cL_law 1183 = .ok (.aload_n 1, 1) := by decide +kernel
theorem dL_law_1184 : decode cL_law 1184 = .ok (.iload 10, 2) := by decide +kernel
theorem dL_law_1186 : decode cL_law 1186 = .ok (.iconst 5, 1) := by decide +kernel
theorem dL_law_1187 : decode cL_law 1187 = .ok (.iadd, 1) := by decide +kernel
theorem dL_law_1188 : decode cL_law 1188 = .ok (.invokestatic 131, 3) := by decide +kernel
theorem dL_law_1191 : decode cL_law 1191 = .ok (.iload 12, 2) := by decide +kernel
theorem dL_law_1193 : decode cL_law 1193 = .ok (.if_icmp .ne 15, 3) := by decide +kernel
theorem dL_law_1196 : decode cL_law 1196 = .ok (.aload_n 1, 1) := by decide +kernel
theorem dL_law_1197 : decode cL_law 1197 = .ok (.iconst 0, 1) := by decide +kernel
theorem dL_law_1198 : decode cL_law 1198 = .ok (.iload 10, 2) := by decide +kernel
theorem dL_law_1200 : decode cL_law 1200 = .ok (.iconst 5, 1) := by decide +kernel
theorem dL_law_1201 : decode cL_law 1201 = .ok (.iadd, 1) := by decide +kernel
theorem dL_law_1202 : decode cL_law 1202 = .ok (.invokestatic 140, 3) := by decide +kernel
theorem dL_law_1205 : decode cL_law 1205 = .ok (.goto 5, 3) := by decide +kernel
theorem dL_law_1208 : decode cL_law 1208 = .ok (.ldc 20, 2) := by decide +kernel
theorem dL_law_1210 : decode cL_law 1210 = .ok (.if_icmp .ne 7, 3) := by decide +kernel
theorem dL_law_1213 : decode cL_law 1213 = .ok (.iconst 1, 1) := by decide +kernel
theorem dL_law_1214 : decode cL_law 1214 = .ok (.goto 4, 3) := by decide +kernel
theorem dL_law_1217 : decode cL_law 1217 = .ok (.iconst 0, 1) := by decide +kernel
theorem dL_law_1218 : decode cL_law 1218 = .ok (.iand, 1) := by decide +kernel
theorem dL_law_1219 : decode cL_law 1219 = .ok (.istore_n 2, 1) := by decide +kernel
theorem dL_law_1220 : decode cL_law 1220 = .ok (.iload_n 2, 1) := by decide +kernel
theorem dL_law_1221 : decode cL_law 1221 = .ok (.ifCond .eq 14, 3) := by decide +kernel
theorem dL_law_1224 : decode cL_law 1224 = .ok (.aload_n 1, 1) := by decide +kernel
theorem dL_law_1225 : decode cL_law 1225 = .ok (.invokevirtual 142, 3) := by decide +kernel
theorem dL_law_1228 : decode cL_law 1228 = .ok (.ifCond .eq 7, 3) := by decide +kernel
theorem dL_law_1231 : decode cL_law 1231 = .ok (.iconst 1, 1) := by decide +kernel
theorem dL_law_1232 : decode cL_law 1232 = .ok (.goto 4, 3) := by decide +kernel
theorem dL_law_1235 : decode cL_law 1235 = .ok (.iconst 0, 1) := by decide +kernel
theorem dL_law_1236 : decode cL_law 1236 = .ok (.ireturn, 1) := by decide +kernel
end
section
/-! A judgement over W: the world, the locals and the stack as lists; every method is walked in it. -/
def fz_ty (cy : Nat → ClassId) : List (ClassId × FieldType) := [(cy 0, .byte), (cy 1, .int), (cy 2, .boolean), (cy 3, .long), (cy 4, .object "Foldrose$Row"), (cy 5, .object "Foldrose$Group"), (cy 6, .object "Foldrose$Images")]
def fz_sg (j : Nat) : Value := .int ([97, 65, 98, 66, 99, 67].getD j 0)
def fz_tx : List (Nat × String) := [(102, "30 letters are typed"), (126, "no such letter"), (149, "the exponent is out of range"), (159, "the word is empty"), (171, "there is none"), (389, "no such word")]
def fz_ex : List String := ["java/lang/IllegalArgumentException", "java/lang/IndexOutOfBoundsException", "java/util/NoSuchElementException"]
def fz_nc : List (String × String) := [("java/util/NoSuchElementException", "java/lang/IndexOutOfBoundsException"), ("java/lang/IllegalArgumentException", "java/lang/IndexOutOfBoundsException")]
def fz_nl : List (String × Nat × MethodName) := [(RX9, 50, yX1_init), (RX9, 57, yX5_init), (RX9, 64, yX0_init), (RX0, 11, yX1_init), (RX9, 71, yX6_init), (RX9, 78, yX8_init), (RX2, 11, yX1_init)]
/-- what lies outside every world and is never written: the signs, the law's literal, the texts of exceptions -/
def fz_S (A : Nat → Prop) (U : State) (H : Heap) : Prop :=
  (∃ t, va_Z "Foldrose" "SIGNS" "[C" (.ref t) A U H ∧ va_T .char t 6 fz_sg A U H) ∧
  (vx_Zq Bundle.tN "UNASSIGNED_STACK" Bundle.steD A U H ∧ vx_Zq Bundle.tN "SUPPRESSED_SENTINEL" Bundle.listD A U H) ∧
  (∀ q ∈ fz_tx, ∃ a, vk_R RX9 q.1 q.2 a U) ∧
  (∃ (adK adV : Nat → Nat), vk_S 1 [6] [[97, 65, 98, 66, 99, 67]] adK adV A U H ∧ vk_R RL 83 "aAbBcC" (adK 0) U) ∧
  (va_Z "java/lang/String" "COMPACT_STRINGS" "Z" (.int 1) A U H ∧ va_Zq "jdk/internal/util/Preconditions" "SIOOBE_FORMATTER" "Ljava/util/function/BiFunction;" A U H) ∧
  (va_AO "Foldrose$Row" U ∧ va_AO "Foldrose$Group" U ∧ va_AO "Foldrose$Images" U) ∧
  (∀ E ∈ fz_ex, va_Nw (.castable E E) U) ∧ (∀ q ∈ fz_nc, va_Nc q.1 q.2 U) ∧ ∀ q ∈ fz_nl, va_Nw (.methodLinkNest q.1 q.2.1 q.2.2 "Foldrose") U
theorem fz_S.kept {A : Nat → Prop} {U : State} {H H1 : Heap} (h : fz_S A U H) (hq : ∀ a : Nat, a < H.size → ¬ A a → H1[a]? = H[a]?) : fz_S A U H1 := by
  obtain ⟨⟨t, a1, a2⟩, ⟨b1, b2⟩, c1, ⟨adK, adV, d1, d2⟩, ⟨e1, e2⟩, f1⟩ := h
  exact ⟨⟨t, a1.kept hq, a2.kept hq⟩, ⟨b1.kept hq, b2.kept hq⟩, c1, ⟨adK, adV, d1.kept hq, d2⟩, ⟨e1.kept hq, e2.kept hq⟩, f1⟩
theorem fz_S.narrow {A B : Nat → Prop} {U : State} {H : Heap} (h : fz_S A U H) (hq : ∀ q, B q → A q) : fz_S B U H := by
  obtain ⟨⟨t, a1, a2⟩, ⟨b1, b2⟩, c1, ⟨adK, adV, d1, d2⟩, ⟨e1, e2⟩, f1⟩ := h
  exact ⟨⟨t, a1.narrow hq, a2.narrow hq⟩, ⟨b1.narrow hq, b2.narrow hq⟩, c1, ⟨adK, adV, d1.narrow hq, d2⟩, ⟨e1.narrow hq, e2.narrow hq⟩, f1⟩
theorem fz_S.warm {A : Nat → Prop} {s U : State} {H : Heap} (hW : s.WarmedH U.vm) (h : fz_S A s H) : fz_S A U H := by
  obtain ⟨⟨t, a1, a2⟩, ⟨b1, b2⟩, c1, ⟨adK, adV, d1, d2⟩, ⟨e1, e2⟩, ⟨f1, f2, f3⟩, g1, g2, g3⟩ := h
  exact ⟨⟨t, va_Z.moved hW.alike a1, va_T.moved hW.alike a2⟩, ⟨vx_Zq.moved hW.alike b1, vx_Zq.moved hW.alike b2⟩, fun q hq => (c1 q hq).elim fun a h => ⟨a, vk_R.warm hW h⟩, ⟨adK, adV, vk_S.moved hW.alike d1, vk_R.warm hW d2⟩, ⟨va_Z.moved hW.alike e1, va_Zq.moved hW.alike e2⟩, ⟨va_AO.moved hW.alike f1, va_AO.moved hW.alike f2, va_AO.moved hW.alike f3⟩, fun E hE => va_Nw.warmC hW (g1 E hE), fun q hq => va_Nc.moved hW.alike (g2 q hq), fun q hq => va_Nw.warmM hW (g3 q hq)⟩
theorem fz_S.same {A : Nat → Prop} {u U : State} {H : Heap} (hv : U.vm = u.vm) (h : fz_S A u H) : fz_S A U H := by
  have ha : u.vm.Alike U.vm := by rw [hv]; exact Vm.Alike.refl u.vm
  obtain ⟨⟨t, a1, a2⟩, ⟨b1, b2⟩, c1, ⟨adK, adV, d1, d2⟩, ⟨e1, e2⟩, ⟨f1, f2, f3⟩, g1, g2, g3⟩ := h
  exact ⟨⟨t, va_Z.moved ha a1, va_T.moved ha a2⟩, ⟨vx_Zq.moved ha b1, vx_Zq.moved ha b2⟩, fun q hq => (c1 q hq).elim fun a h => ⟨a, vk_R.same hv h⟩, ⟨adK, adV, vk_S.moved ha d1, vk_R.same hv d2⟩, ⟨va_Z.moved ha e1, va_Zq.moved ha e2⟩, ⟨va_AO.moved ha f1, va_AO.moved ha f2, va_AO.moved ha f3⟩, fun E hE => va_Nw.same rfl hv.symm (g1 E hE), fun q hq => va_Nc.moved ha (g2 q hq), fun q hq => va_Nw.same rfl hv.symm (g3 q hq)⟩
/-- what holds all through a method -/
def fz_C (p : Program) (c : Code) (s : State) (m : MethodId) (args : Array Value) (nL : Nat) (cc : ByteArray) (Ts : List Cond) (own : String) (meth : Method) (ret : Option FieldType) (G : va_G) (cy : Nat → ClassId) (A : Nat → Prop) : Prop :=
  CallFix p m c cc nL s args Ts own ∧ meth.sig.returnType = ret ∧ meth.locks = false ∧ va_K G vwCl (fz_ty cy) s ∧ (∀ q, s.heap.size ≤ q → A q) ∧ fz_S A s s.heap
def J (p : Program) (l : Launch) (e : Env) (R : Room) (s : State) (m : MethodId) (args : Array Value) (below : List Frame) (meth : Method) (c : Code) (Q : State → Prop) (G : va_G) (A : Nat → Prop) (nL : Nat) (ws : va_W) (k n pc : Nat) (lo : List (Nat × Value)) (st : List Value) : Prop :=
  ∀ (H : Heap) (locs : List Loc) (ls : Array Slot), va_P G vwCl ws H → va_D A ws → va_S A s.heap H locs → lv_has ls nL lo → W p l e R s m args below meth c H locs k n Q (F0 m pc ls st)
/-- a throw on its way in this frame -/
def JX (p : Program) (l : Launch) (e : Env) (R : Room) (s : State) (m : MethodId) (args : Array Value) (below : List Frame) (meth : Method) (c : Code) (Q : State → Prop) (G : va_G) (A : Nat → Prop) (nL : Nat) (ws : va_W) (k n pc : Nat) (lo : List (Nat × Value)) (E : String) : Prop :=
  ∀ (H : Heap) (locs : List Loc) (ls : Array Slot) (st : List Value) (ce : Cell) (q : Addr), va_P G vwCl ws H → va_D A ws → va_S A s.heap H locs → lv_has ls nL lo → H[q]? = some ce → ce.vm = .none → s.vm.findClass E = some ce.cls → vx_W p l e R s m args below meth c H locs k n Q (F0 m pc ls st) q
section FZJ
variable {p : Program} {l : Launch} {e : Env} {R : Room} {s : State} {m : MethodId} {args : Array Value} {below : List Frame} {meth : Method} {c : Code} {Q : State → Prop} {G : va_G} {cy : Nat → ClassId} {A : Nat → Prop} {nL : Nat} {cc : ByteArray} {Ts : List Cond} {own : String} {ret : Option FieldType}
variable {ws : va_W} {k n pc : Nat} {lo : List (Nat × Value)} {st : List Value}
theorem j_iconst (C : fz_C p c s m args nL cc Ts own meth ret G cy A) {z : Int} {v : Int32} (hv : Int32.ofInt z = v) (d : decode cc pc = .ok (.iconst z, 1)) (kk : J p l e R s m args below meth c Q G A nL ws k n (pc + 1) lo (.int v :: st)) : J p l e R s m args below meth c Q G A nL ws k n pc lo st := fun H locs ls hP hD hS hl => lv_iconst C.1.1 C.1.2.1 d hv (kk H locs ls hP hD hS hl)
theorem j_bipush (C : fz_C p c s m args nL cc Ts own meth ret G cy A) {z : Int} {v : Int32} (hv : (Int8.ofInt z).toInt32 = v) (d : decode cc pc = .ok (.bipush z, 2)) (kk : J p l e R s m args below meth c Q G A nL ws k n (pc + 2) lo (.int v :: st)) : J p l e R s m args below meth c Q G A nL ws k n pc lo st := fun H locs ls hP hD hS hl => lv_bipush C.1.1 C.1.2.1 d hv (kk H locs ls hP hD hS hl)
theorem j_sipush (C : fz_C p c s m args nL cc Ts own meth ret G cy A) {z : Int} {v : Int32} (hv : (Int16.ofInt z).toInt32 = v) (d : decode cc pc = .ok (.sipush z, 3)) (kk : J p l e R s m args below meth c Q G A nL ws k n (pc + 3) lo (.int v :: st)) : J p l e R s m args below meth c Q G A nL ws k n pc lo st := fun H locs ls hP hD hS hl => lv_sipush C.1.1 C.1.2.1 d hv (kk H locs ls hP hD hS hl)
theorem j_iload_n (C : fz_C p c s m args nL cc Ts own meth ret G cy A) {kf : Fin 4} {i : Nat} {x : Int32} (hi : (kf : Nat) = i) (q : Nat) (hq : lo[q]? = some (i, .int x)) (d : decode cc pc = .ok (.iload_n kf, 1)) (kk : J p l e R s m args below meth c Q G A nL ws k n (pc + 1) lo (.int x :: st)) : J p l e R s m args below meth c Q G A nL ws k n pc lo st := fun H locs ls hP hD hS hl => lv_iload_n C.1.1 C.1.2.1 d hi (lv_at hl q hq) (kk H locs ls hP hD hS hl)
theorem j_iload (C : fz_C p c s m args nL cc Ts own meth ret G cy A) {i : Nat} {x : Int32} (q : Nat) (hq : lo[q]? = some (i, .int x)) (d : decode cc pc = .ok (.iload i, 2)) (kk : J p l e R s m args below meth c Q G A nL ws k n (pc + 2) lo (.int x :: st)) : J p l e R s m args below meth c Q G A nL ws k n pc lo st := fun H locs ls hP hD hS hl => lv_iload C.1.1 C.1.2.1 d (lv_at hl q hq) (kk H locs ls hP hD hS hl)
theorem j_aload_n (C : fz_C p c s m args nL cc Ts own meth ret G cy A) {kf : Fin 4} {i : Nat} {x : Nat} (hi : (kf : Nat) = i) (q : Nat) (hq : lo[q]? = some (i, .ref x)) (d : decode cc pc = .ok (.aload_n kf, 1)) (kk : J p l e R s m args below meth c Q G A nL ws k n (pc + 1) lo (.ref x :: st)) : J p l e R s m args below meth c Q G A nL ws k n pc lo st := fun H locs ls hP hD hS hl => lv_aload_n C.1.1 C.1.2.1 d hi (lv_at hl q hq) (kk H locs ls hP hD hS hl)
theorem j_aload (C : fz_C p c s m args nL cc Ts own meth ret G cy A) {i : Nat} {x : Nat} (q : Nat) (hq : lo[q]? = some (i, .ref x)) (d : decode cc pc = .ok (.aload i, 2)) (kk : J p l e R s m args below meth c Q G A nL ws k n (pc + 2) lo (.ref x :: st)) : J p l e R s m args below meth c Q G A nL ws k n pc lo st := fun H locs ls hP hD hS hl => lv_aload C.1.1 C.1.2.1 d (lv_at hl q hq) (kk H locs ls hP hD hS hl)
theorem j_istore_n (C : fz_C p c s m args nL cc Ts own meth ret G cy A) {kf : Fin 4} {i : Nat} {x : Int32} {lo1 : List (Nat × Value)} (hi : (kf : Nat) = i) (hn : i < nL) (hlo : (i, Value.int x) :: lo.filter (fun q => !(q.1 == i) && !(q.1 + 1 == i && q.2.category == 2)) = lo1) (d : decode cc pc = .ok (.istore_n kf, 1)) (kk : J p l e R s m args below meth c Q G A nL ws k n (pc + 1) lo1 st) : J p l e R s m args below meth c Q G A nL ws k n pc lo (.int x :: st) := fun H locs ls hP hD hS hl => lv_istore_n C.1.1 C.1.2.1 d hi hl hn hlo (fun ls hl => (kk H locs ls hP hD hS hl))
theorem j_astore_n (C : fz_C p c s m args nL cc Ts own meth ret G cy A) {kf : Fin 4} {i : Nat} {x : Nat} {lo1 : List (Nat × Value)} (hi : (kf : Nat) = i) (hn : i < nL) (hlo : (i, Value.ref x) :: lo.filter (fun q => !(q.1 == i) && !(q.1 + 1 == i && q.2.category == 2)) = lo1) (d : decode cc pc = .ok (.astore_n kf, 1)) (kk : J p l e R s m args below meth c Q G A nL ws k n (pc + 1) lo1 st) : J p l e R s m args below meth c Q G A nL ws k n pc lo (.ref x :: st) := fun H locs ls hP hD hS hl => lv_astore_n C.1.1 C.1.2.1 d hi hl hn hlo (fun ls hl => (kk H locs ls hP hD hS hl))
theorem j_istore (C : fz_C p c s m args nL cc Ts own meth ret G cy A) {i : Nat} {x : Int32} {lo1 : List (Nat × Value)} (hn : i < nL) (hlo : (i, Value.int x) :: lo.filter (fun q => !(q.1 == i) && !(q.1 + 1 == i && q.2.category == 2)) = lo1) (d : decode cc pc = .ok (.istore i, 2)) (kk : J p l e R s m args below meth c Q G A nL ws k n (pc + 2) lo1 st) : J p l e R s m args below meth c Q G A nL ws k n pc lo (.int x :: st) := fun H locs ls hP hD hS hl => lv_istore C.1.1 C.1.2.1 d hl hn hlo (fun ls hl => (kk H locs ls hP hD hS hl))
theorem j_astore (C : fz_C p c s m args nL cc Ts own meth ret G cy A) {i : Nat} {x : Nat} {lo1 : List (Nat × Value)} (hn : i < nL) (hlo : (i, Value.ref x) :: lo.filter (fun q => !(q.1 == i) && !(q.1 + 1 == i && q.2.category == 2)) = lo1) (d : decode cc pc = .ok (.astore i, 2)) (kk : J p l e R s m args below meth c Q G A nL ws k n (pc + 2) lo1 st) : J p l e R s m args below meth c Q G A nL ws k n pc lo (.ref x :: st) := fun H locs ls hP hD hS hl => lv_astore C.1.1 C.1.2.1 d hl hn hlo (fun ls hl => (kk H locs ls hP hD hS hl))
theorem j_iinc (C : fz_C p c s m args nL cc Ts own meth ret G cy A) {i : Nat} {z : Int} {x v : Int32} {lo1 : List (Nat × Value)} (q : Nat) (hq : lo[q]? = some (i, .int x)) (hv : x + Int32.ofInt z = v) (hn : i < nL) (hlo : (i, Value.int v) :: lo.filter (fun q => !(q.1 == i) && !(q.1 + 1 == i && q.2.category == 2)) = lo1) (d : decode cc pc = .ok (.iinc i z, 3)) (kk : J p l e R s m args below meth c Q G A nL ws k n (pc + 3) lo1 st) : J p l e R s m args below meth c Q G A nL ws k n pc lo st := fun H locs ls hP hD hS hl => lv_iinc C.1.1 C.1.2.1 d hl hq hv hn hlo (fun ls hl => (kk H locs ls hP hD hS hl))
theorem j_iadd (C : fz_C p c s m args nL cc Ts own meth ret G cy A) {x y v : Int32} (hv : x + y = v) (d : decode cc pc = .ok (.iadd, 1)) (kk : J p l e R s m args below meth c Q G A nL ws k n (pc + 1) lo (.int v :: st)) : J p l e R s m args below meth c Q G A nL ws k n pc lo (.int y :: .int x :: st) := fun H locs ls hP hD hS hl => by subst hv; exact lv_iadd C.1.1 C.1.2.1 d (kk H locs ls hP hD hS hl)
theorem j_isub (C : fz_C p c s m args nL cc Ts own meth ret G cy A) {x y v : Int32} (hv : x - y = v) (d : decode cc pc = .ok (.isub, 1)) (kk : J p l e R s m args below meth c Q G A nL ws k n (pc + 1) lo (.int v :: st)) : J p l e R s m args below meth c Q G A nL ws k n pc lo (.int y :: .int x :: st) := fun H locs ls hP hD hS hl => by subst hv; exact lv_isub C.1.1 C.1.2.1 d (kk H locs ls hP hD hS hl)
theorem j_imul (C : fz_C p c s m args nL cc Ts own meth ret G cy A) {x y v : Int32} (hv : x * y = v) (d : decode cc pc = .ok (.imul, 1)) (kk : J p l e R s m args below meth c Q G A nL ws k n (pc + 1) lo (.int v :: st)) : J p l e R s m args below meth c Q G A nL ws k n pc lo (.int y :: .int x :: st) := fun H locs ls hP hD hS hl => by subst hv; exact lv_imul C.1.1 C.1.2.1 d (kk H locs ls hP hD hS hl)
theorem j_iand (C : fz_C p c s m args nL cc Ts own meth ret G cy A) {x y v : Int32} (hv : x &&& y = v) (d : decode cc pc = .ok (.iand, 1)) (kk : J p l e R s m args below meth c Q G A nL ws k n (pc + 1) lo (.int v :: st)) : J p l e R s m args below meth c Q G A nL ws k n pc lo (.int y :: .int x :: st) := fun H locs ls hP hD hS hl => by subst hv; exact lv_iand C.1.1 C.1.2.1 d (kk H locs ls hP hD hS hl)
theorem j_ixor (C : fz_C p c s m args nL cc Ts own meth ret G cy A) {x y v : Int32} (hv : x ^^^ y = v) (d : decode cc pc = .ok (.ixor, 1)) (kk : J p l e R s m args below meth c Q G A nL ws k n (pc + 1) lo (.int v :: st)) : J p l e R s m args below meth c Q G A nL ws k n pc lo (.int y :: .int x :: st) := fun H locs ls hP hD hS hl => by subst hv; exact lv_ixor C.1.1 C.1.2.1 d (kk H locs ls hP hD hS hl)
theorem j_ior (C : fz_C p c s m args nL cc Ts own meth ret G cy A) {x y v : Int32} (hv : x ||| y = v) (d : decode cc pc = .ok (.ior, 1)) (kk : J p l e R s m args below meth c Q G A nL ws k n (pc + 1) lo (.int v :: st)) : J p l e R s m args below meth c Q G A nL ws k n pc lo (.int y :: .int x :: st) := fun H locs ls hP hD hS hl => by subst hv; exact lv_ior C.1.1 C.1.2.1 d (kk H locs ls hP hD hS hl)
theorem j_idiv (C : fz_C p c s m args nL cc Ts own meth ret G cy A) {x y v : Int32} (hne : ¬ y = 0) (hv : x / y = v) (d : decode cc pc = .ok (.idiv, 1)) (kk : J p l e R s m args below meth c Q G A nL ws k n (pc + 1) lo (.int v :: st)) : J p l e R s m args below meth c Q G A nL ws k n pc lo (.int y :: .int x :: st) := fun H locs ls hP hD hS hl => by subst hv; exact lv_idiv C.1.1 C.1.2.1 d hne (kk H locs ls hP hD hS hl)
theorem j_irem (C : fz_C p c s m args nL cc Ts own meth ret G cy A) {x y v : Int32} (hne : ¬ y = 0) (hv : x - x / y * y = v) (d : decode cc pc = .ok (.irem, 1)) (kk : J p l e R s m args below meth c Q G A nL ws k n (pc + 1) lo (.int v :: st)) : J p l e R s m args below meth c Q G A nL ws k n pc lo (.int y :: .int x :: st) := fun H locs ls hP hD hS hl => by subst hv; exact lv_irem C.1.1 C.1.2.1 d hne (kk H locs ls hP hD hS hl)
theorem j_ineg (C : fz_C p c s m args nL cc Ts own meth ret G cy A) {x v : Int32} (hv : -x = v) (d : decode cc pc = .ok (.ineg, 1)) (kk : J p l e R s m args below meth c Q G A nL ws k n (pc + 1) lo (.int v :: st)) : J p l e R s m args below meth c Q G A nL ws k n pc lo (.int x :: st) := fun H locs ls hP hD hS hl => by subst hv; exact lv_ineg C.1.1 C.1.2.1 d (kk H locs ls hP hD hS hl)
theorem j_ishl (C : fz_C p c s m args nL cc Ts own meth ret G cy A) {x y v : Int32} (hv : x <<< (y &&& 31) = v) (d : decode cc pc = .ok (.ishl, 1)) (kk : J p l e R s m args below meth c Q G A nL ws k n (pc + 1) lo (.int v :: st)) : J p l e R s m args below meth c Q G A nL ws k n pc lo (.int y :: .int x :: st) := fun H locs ls hP hD hS hl => by subst hv; exact lv_ishl C.1.1 C.1.2.1 d (kk H locs ls hP hD hS hl)
theorem j_ishr (C : fz_C p c s m args nL cc Ts own meth ret G cy A) {x y v : Int32} (hv : x >>> (y &&& 31) = v) (d : decode cc pc = .ok (.ishr, 1)) (kk : J p l e R s m args below meth c Q G A nL ws k n (pc + 1) lo (.int v :: st)) : J p l e R s m args below meth c Q G A nL ws k n pc lo (.int y :: .int x :: st) := fun H locs ls hP hD hS hl => by subst hv; exact lv_ishr C.1.1 C.1.2.1 d (kk H locs ls hP hD hS hl)
theorem j_iushr (C : fz_C p c s m args nL cc Ts own meth ret G cy A) {x y v : Int32} (hv : (x.toUInt32 >>> (y.toUInt32 &&& Int32.toUInt32 31)).toInt32 = v) (d : decode cc pc = .ok (.iushr, 1)) (kk : J p l e R s m args below meth c Q G A nL ws k n (pc + 1) lo (.int v :: st)) : J p l e R s m args below meth c Q G A nL ws k n pc lo (.int y :: .int x :: st) := fun H locs ls hP hD hS hl => lv_iushr C.1.1 C.1.2.1 d hv (kk H locs ls hP hD hS hl)
theorem j_i2b (C : fz_C p c s m args nL cc Ts own meth ret G cy A) {x v : Int32} (hv : x.toInt8.toInt32 = v) (d : decode cc pc = .ok (.i2b, 1)) (kk : J p l e R s m args below meth c Q G A nL ws k n (pc + 1) lo (.int v :: st)) : J p l e R s m args below meth c Q G A nL ws k n pc lo (.int x :: st) := fun H locs ls hP hD hS hl => lv_i2b C.1.1 C.1.2.1 d hv (kk H locs ls hP hD hS hl)
theorem j_i2c (C : fz_C p c s m args nL cc Ts own meth ret G cy A) {x v : Int32} (hv : (x.toUInt32 % 65536).toInt32 = v) (d : decode cc pc = .ok (.i2c, 1)) (kk : J p l e R s m args below meth c Q G A nL ws k n (pc + 1) lo (.int v :: st)) : J p l e R s m args below meth c Q G A nL ws k n pc lo (.int x :: st) := fun H locs ls hP hD hS hl => lv_i2c C.1.1 C.1.2.1 d hv (kk H locs ls hP hD hS hl)
theorem j_dup (C : fz_C p c s m args nL cc Ts own meth ret G cy A) {v : Value} (hv : v.category = 1) (d : decode cc pc = .ok (.dup, 1)) (kk : J p l e R s m args below meth c Q G A nL ws k n (pc + 1) lo (v :: v :: st)) : J p l e R s m args below meth c Q G A nL ws k n pc lo (v :: st) := fun H locs ls hP hD hS hl => lv_dup C.1.1 C.1.2.1 d hv (kk H locs ls hP hD hS hl)
theorem j_pop (C : fz_C p c s m args nL cc Ts own meth ret G cy A) {v : Value} (hv : v.category = 1) (d : decode cc pc = .ok (.pop, 1)) (kk : J p l e R s m args below meth c Q G A nL ws k n (pc + 1) lo st) : J p l e R s m args below meth c Q G A nL ws k n pc lo (v :: st) := fun H locs ls hP hD hS hl => lv_pop C.1.1 C.1.2.1 d hv (kk H locs ls hP hD hS hl)
theorem j_dup_x1 (C : fz_C p c s m args nL cc Ts own meth ret G cy A) {v w : Value} (hv : v.category = 1) (hw : w.category = 1) (d : decode cc pc = .ok (.dup_x1, 1)) (kk : J p l e R s m args below meth c Q G A nL ws k n (pc + 1) lo (v :: w :: v :: st)) : J p l e R s m args below meth c Q G A nL ws k n pc lo (v :: w :: st) := fun H locs ls hP hD hS hl => lv_dup_x1 C.1.1 C.1.2.1 d hv hw (kk H locs ls hP hD hS hl)
theorem j_goto (C : fz_C p c s m args nL cc Ts own meth ret G cy A) {off : Int} {tgt : Nat} (ht : (pc : Int) + off = (tgt : Int)) (d : decode cc pc = .ok (.goto off, 3)) (kk : J p l e R s m args below meth c Q G A nL ws k n tgt lo st) : J p l e R s m args below meth c Q G A nL ws k n pc lo st := fun H locs ls hP hD hS hl => lv_goto C.1.1 C.1.2.1 d ht (kk H locs ls hP hD hS hl)
theorem j_ldc (C : fz_C p c s m args nL cc Ts own meth ret G cy A) {idx : Nat} {v : Int32} (hw : Cond.constant own idx v ∈ Ts) (d : decode cc pc = .ok (.ldc idx, 2)) (kk : J p l e R s m args below meth c Q G A nL ws k n (pc + 2) lo (.int v :: st)) : J p l e R s m args below meth c Q G A nL ws k n pc lo st := fun H locs ls hP hD hS hl => lv_ldc C.1.1 C.1.2.1 C.1.2.2.2.1 (C.1.2.2.2.2 _ hw) d (kk H locs ls hP hD hS hl)
theorem j_if_eq (C : fz_C p c s m args nL cc Ts own meth ret G cy A) {x : Int32} {P : Prop} (hP : (x = 0) ↔ P) {off : Int} {tgt : Nat} (ht : (pc : Int) + off = (tgt : Int)) (d : decode cc pc = .ok (.ifCond .eq off, 3)) (kt : P → J p l e R s m args below meth c Q G A nL ws k n tgt lo st) (kf : ¬ P → J p l e R s m args below meth c Q G A nL ws k n (pc + 3) lo st) : J p l e R s m args below meth c Q G A nL ws k n pc lo (.int x :: st) := fun H locs ls hP9 hD hS hl => lv_if_eq C.1.1 C.1.2.1 d ht (fun h => kt (hP.mp h) H locs ls hP9 hD hS hl) (fun h => kf (fun z => h (hP.mpr z)) H locs ls hP9 hD hS hl)
theorem j_icmp_eq (C : fz_C p c s m args nL cc Ts own meth ret G cy A) {x y : Int32} {P : Prop} (hP : (x = y) ↔ P) {off : Int} {tgt : Nat} (ht : (pc : Int) + off = (tgt : Int)) (d : decode cc pc = .ok (.if_icmp .eq off, 3)) (kt : P → J p l e R s m args below meth c Q G A nL ws k n tgt lo st) (kf : ¬ P → J p l e R s m args below meth c Q G A nL ws k n (pc + 3) lo st) : J p l e R s m args below meth c Q G A nL ws k n pc lo (.int y :: .int x :: st) := fun H locs ls hP9 hD hS hl => lv_icmp_eq C.1.1 C.1.2.1 d ht (fun h => kt (hP.mp h) H locs ls hP9 hD hS hl) (fun h => kf (fun z => h (hP.mpr z)) H locs ls hP9 hD hS hl)
theorem j_if_ne (C : fz_C p c s m args nL cc Ts own meth ret G cy A) {x : Int32} {P : Prop} (hP : (x = 0) ↔ P) {off : Int} {tgt : Nat} (ht : (pc : Int) + off = (tgt : Int)) (d : decode cc pc = .ok (.ifCond .ne off, 3)) (kt : ¬ P → J p l e R s m args below meth c Q G A nL ws k n tgt lo st) (kf : P → J p l e R s m args below meth c Q G A nL ws k n (pc + 3) lo st) : J p l e R s m args below meth c Q G A nL ws k n pc lo (.int x :: st) := fun H locs ls hP9 hD hS hl => lv_if_ne C.1.1 C.1.2.1 d ht (fun h => kt (fun z => h (hP.mpr z)) H locs ls hP9 hD hS hl) (fun h => kf (hP.mp h) H locs ls hP9 hD hS hl)
theorem j_icmp_ne (C : fz_C p c s m args nL cc Ts own meth ret G cy A) {x y : Int32} {P : Prop} (hP : (x = y) ↔ P) {off : Int} {tgt : Nat} (ht : (pc : Int) + off = (tgt : Int)) (d : decode cc pc = .ok (.if_icmp .ne off, 3)) (kt : ¬ P → J p l e R s m args below meth c Q G A nL ws k n tgt lo st) (kf : P → J p l e R s m args below meth c Q G A nL ws k n (pc + 3) lo st) : J p l e R s m args below meth c Q G A nL ws k n pc lo (.int y :: .int x :: st) := fun H locs ls hP9 hD hS hl => lv_icmp_ne C.1.1 C.1.2.1 d ht (fun h => kt (fun z => h (hP.mpr z)) H locs ls hP9 hD hS hl) (fun h => kf (hP.mp h) H locs ls hP9 hD hS hl)
theorem j_if_lt (C : fz_C p c s m args nL cc Ts own meth ret G cy A) {x : Int32} {P : Prop} (hP : (x < 0) ↔ P) {off : Int} {tgt : Nat} (ht : (pc : Int) + off = (tgt : Int)) (d : decode cc pc = .ok (.ifCond .lt off, 3)) (kt : P → J p l e R s m args below meth c Q G A nL ws k n tgt lo st) (kf : ¬ P → J p l e R s m args below meth c Q G A nL ws k n (pc + 3) lo st) : J p l e R s m args below meth c Q G A nL ws k n pc lo (.int x :: st) := fun H locs ls hP9 hD hS hl => lv_if_lt C.1.1 C.1.2.1 d ht (fun h => kt (hP.mp h) H locs ls hP9 hD hS hl) (fun h => kf (fun z => h (hP.mpr z)) H locs ls hP9 hD hS hl)
theorem j_icmp_lt (C : fz_C p c s m args nL cc Ts own meth ret G cy A) {x y : Int32} {P : Prop} (hP : (x < y) ↔ P) {off : Int} {tgt : Nat} (ht : (pc : Int) + off = (tgt : Int)) (d : decode cc pc = .ok (.if_icmp .lt off, 3)) (kt : P → J p l e R s m args below meth c Q G A nL ws k n tgt lo st) (kf : ¬ P → J p l e R s m args below meth c Q G A nL ws k n (pc + 3) lo st) : J p l e R s m args below meth c Q G A nL ws k n pc lo (.int y :: .int x :: st) := fun H locs ls hP9 hD hS hl => lv_icmp_lt C.1.1 C.1.2.1 d ht (fun h => kt (hP.mp h) H locs ls hP9 hD hS hl) (fun h => kf (fun z => h (hP.mpr z)) H locs ls hP9 hD hS hl)
theorem j_if_ge (C : fz_C p c s m args nL cc Ts own meth ret G cy A) {x : Int32} {P : Prop} (hP : (0 ≤ x) ↔ P) {off : Int} {tgt : Nat} (ht : (pc : Int) + off = (tgt : Int)) (d : decode cc pc = .ok (.ifCond .ge off, 3)) (kt : P → J p l e R s m args below meth c Q G A nL ws k n tgt lo st) (kf : ¬ P → J p l e R s m args below meth c Q G A nL ws k n (pc + 3) lo st) : J p l e R s m args below meth c Q G A nL ws k n pc lo (.int x :: st) := fun H locs ls hP9 hD hS hl => lv_if_ge C.1.1 C.1.2.1 d ht (fun h => kt (hP.mp h) H locs ls hP9 hD hS hl) (fun h => kf (fun z => h (hP.mpr z)) H locs ls hP9 hD hS hl)
theorem j_icmp_ge (C : fz_C p c s m args nL cc Ts own meth ret G cy A) {x y : Int32} {P : Prop} (hP : (y ≤ x) ↔ P) {off : Int} {tgt : Nat} (ht : (pc : Int) + off = (tgt : Int)) (d : decode cc pc = .ok (.if_icmp .ge off, 3)) (kt : P → J p l e R s m args below meth c Q G A nL ws k n tgt lo st) (kf : ¬ P → J p l e R s m args below meth c Q G A nL ws k n (pc + 3) lo st) : J p l e R s m args below meth c Q G A nL ws k n pc lo (.int y :: .int x :: st) := fun H locs ls hP9 hD hS hl => lv_icmp_ge C.1.1 C.1.2.1 d ht (fun h => kt (hP.mp h) H locs ls hP9 hD hS hl) (fun h => kf (fun z => h (hP.mpr z)) H locs ls hP9 hD hS hl)
theorem j_if_gt (C : fz_C p c s m args nL cc Ts own meth ret G cy A) {x : Int32} {P : Prop} (hP : (0 < x) ↔ P) {off : Int} {tgt : Nat} (ht : (pc : Int) + off = (tgt : Int)) (d : decode cc pc = .ok (.ifCond .gt off, 3)) (kt : P → J p l e R s m args below meth c Q G A nL ws k n tgt lo st) (kf : ¬ P → J p l e R s m args below meth c Q G A nL ws k n (pc + 3) lo st) : J p l e R s m args below meth c Q G A nL ws k n pc lo (.int x :: st) := fun H locs ls hP9 hD hS hl => lv_if_gt C.1.1 C.1.2.1 d ht (fun h => kt (hP.mp h) H locs ls hP9 hD hS hl) (fun h => kf (fun z => h (hP.mpr z)) H locs ls hP9 hD hS hl)
theorem j_icmp_gt (C : fz_C p c s m args nL cc Ts own meth ret G cy A) {x y : Int32} {P : Prop} (hP : (y < x) ↔ P) {off : Int} {tgt : Nat} (ht : (pc : Int) + off = (tgt : Int)) (d : decode cc pc = .ok (.if_icmp .gt off, 3)) (kt : P → J p l e R s m args below meth c Q G A nL ws k n tgt lo st) (kf : ¬ P → J p l e R s m args below meth c Q G A nL ws k n (pc + 3) lo st) : J p l e R s m args below meth c Q G A nL ws k n pc lo (.int y :: .int x :: st) := fun H locs ls hP9 hD hS hl => lv_icmp_gt C.1.1 C.1.2.1 d ht (fun h => kt (hP.mp h) H locs ls hP9 hD hS hl) (fun h => kf (fun z => h (hP.mpr z)) H locs ls hP9 hD hS hl)
theorem j_if_le (C : fz_C p c s m args nL cc Ts own meth ret G cy A) {x : Int32} {P : Prop} (hP : (x ≤ 0) ↔ P) {off : Int} {tgt : Nat} (ht : (pc : Int) + off = (tgt : Int)) (d : decode cc pc = .ok (.ifCond .le off, 3)) (kt : P → J p l e R s m args below meth c Q G A nL ws k n tgt lo st) (kf : ¬ P → J p l e R s m args below meth c Q G A nL ws k n (pc + 3) lo st) : J p l e R s m args below meth c Q G A nL ws k n pc lo (.int x :: st) := fun H locs ls hP9 hD hS hl => lv_if_le C.1.1 C.1.2.1 d ht (fun h => kt (hP.mp h) H locs ls hP9 hD hS hl) (fun h => kf (fun z => h (hP.mpr z)) H locs ls hP9 hD hS hl)
theorem j_icmp_le (C : fz_C p c s m args nL cc Ts own meth ret G cy A) {x y : Int32} {P : Prop} (hP : (x ≤ y) ↔ P) {off : Int} {tgt : Nat} (ht : (pc : Int) + off = (tgt : Int)) (d : decode cc pc = .ok (.if_icmp .le off, 3)) (kt : P → J p l e R s m args below meth c Q G A nL ws k n tgt lo st) (kf : ¬ P → J p l e R s m args below meth c Q G A nL ws k n (pc + 3) lo st) : J p l e R s m args below meth c Q G A nL ws k n pc lo (.int y :: .int x :: st) := fun H locs ls hP9 hD hS hl => lv_icmp_le C.1.1 C.1.2.1 d ht (fun h => kt (hP.mp h) H locs ls hP9 hD hS hl) (fun h => kf (fun z => h (hP.mpr z)) H locs ls hP9 hD hS hl)
/-- another name for the number on top -/
theorem j_top {x y : Int32} (h : x = y) (kk : J p l e R s m args below meth c Q G A nL ws k n pc lo (.int y :: st)) : J p l e R s m args below meth c Q G A nL ws k n pc lo (.int x :: st) := by rw [h]; exact kk
theorem j_at {pc1 : Nat} (h : pc = pc1) (kk : J p l e R s m args below meth c Q G A nL ws k n pc1 lo st) : J p l e R s m args below meth c Q G A nL ws k n pc lo st := by rw [h]; exact kk
theorem j_lo {lo1 : List (Nat × Value)} (ks : List Nat) (h : lv_pick lo ks = lo1) (kk : J p l e R s m args below meth c Q G A nL ws k n pc lo1 st) : J p l e R s m args below meth c Q G A nL ws k n pc lo st := fun H locs ls hP hD hS hl => kk H locs ls hP hD hS (lv_sub hl ks h)
theorem j_ws {ws1 : va_W} (is : List Nat) (hs : is.map (fun i => ws[i]?) = ws1.map some) (hn : va_nd is = true) (kk : J p l e R s m args below meth c Q G A nL ws1 k n pc lo st) : J p l e R s m args below meth c Q G A nL ws k n pc lo st := by
  intro H locs ls hP hD hS hl
  refine kk H locs ls (fun i q hq => ?_) (hD.sub is hn hs) hS hl
  have h1 : (is.map (fun i => ws[i]?))[i]? = some (some q) := by rw [hs, List.getElem?_map, hq]; rfl
  rw [List.getElem?_map] at h1
  cases hi : is[i]? with
  | none => rw [hi] at h1; cases h1
  | some i2 => rw [hi] at h1; exact hP i2 q (Option.some.inj h1)
theorem j_widen {k1 n1 : Nat} (hk : k ≤ k1) (hn : n ≤ n1) (kk : J p l e R s m args below meth c Q G A nL ws k1 n1 pc lo st) : J p l e R s m args below meth c Q G A nL ws k n pc lo st := fun H locs ls hP hD hS hl => W.widen hk hn (kk H locs ls hP hD hS hl)
theorem j_getf (C : fz_C p c s m args nL cc Ts own meth ret G cy A) {Cn : String} {T : u_T} {N ci idx a : Nat} {fs : List Value} (hin : ∀ w ∈ u_ws Cn T N, w ∈ Ts) (q0 : Nat) (he : ws[q0]? = some (a, .inr (ci, fs))) (hc : vwCl[ci]? = some (Cn, T, N)) (kf : Nat) (hkf : kf < N) (hw : Cond.fieldLink own idx (T kf).1 (T kf).2.1 (T kf).2.2.1 ∈ Ts) {v : Value} (hv : fs[kf]? = some v) (d : decode cc pc = .ok (.getfield idx, 3)) (kk : J p l e R s m args below meth c Q G A nL ws k n (pc + 3) lo (v :: st)) : J p l e R s m args below meth c Q G A nL ws k n pc lo (.ref a :: st) :=
  fun H locs ls hP hD hS hl => va_get C.1.1 C.1.2.1 C.1.2.2.2.2 hin C.1.2.2.2.1 C.2.2.2.1 hP q0 he hc kf hkf (C.1.2.2.2.2 _ hw) (fun _ h => h) hv d (kk H locs ls hP hD hS hl)
theorem j_putf (C : fz_C p c s m args nL cc Ts own meth ret G cy A) {Cn : String} {T : u_T} {ty : Nat → FieldType} {N ci idx a : Nat} {fs : List Value} {ws1 : va_W} (hin : ∀ w ∈ u_ws Cn T N, w ∈ Ts) (hty : ∀ k, k < N → parseFieldDescriptor (T k).2.2.1 = some (ty k)) (hnm : ∀ a, a < N → ∀ b, b < N → a ≠ b → (T a).2.1 ≠ (T b).2.1) (q0 : Nat) (he : ws[q0]? = some (a, .inr (ci, fs))) (hc : vwCl[ci]? = some (Cn, T, N)) (kf : Nat) (hkf : kf < N) (hw : Cond.fieldLink own idx (T kf).1 (T kf).2.1 (T kf).2.2.1 ∈ Ts) (hfin : (T kf).2.2.2 = false) {v : Value} (hn : narrow (ty kf) v = v) (hfit : fits (ty kf) v = true) (hl0 : kf < fs.length) (hw1 : ws.set q0 (a, .inr (ci, fs.set kf v)) = ws1) (d : decode cc pc = .ok (.putfield idx, 3)) (kk : J p l e R s m args below meth c Q G A nL ws1 k n (pc + 3) lo st) : J p l e R s m args below meth c Q G A nL ws k n pc lo (v :: .ref a :: st) := by
  subst hw1
  exact fun H locs ls hP hD hS hl => va_put C.1.1 C.1.2.1 C.1.2.2.2.2 hin ty hty hnm C.1.2.2.2.1 C.2.2.2.1 hP hD hS q0 he hc kf hkf (C.1.2.2.2.2 _ hw) (fun _ h => h) hfin (hty kf hkf) hn hfit hl0 d (fun H locs hP hD hS => kk H locs ls hP hD hS hl)
theorem j_putF (C : fz_C p c s m args nL cc Ts own meth ret G cy A) {Cn : String} {T : u_T} {ty : Nat → FieldType} {N ci idx a : Nat} {fs : List Value} {ws1 : va_W} (hin : ∀ w ∈ u_ws Cn T N, w ∈ Ts) (hty : ∀ k, k < N → parseFieldDescriptor (T k).2.2.1 = some (ty k)) (hnm : ∀ a, a < N → ∀ b, b < N → a ≠ b → (T a).2.1 ≠ (T b).2.1) (q0 : Nat) (he : ws[q0]? = some (a, .inr (ci, fs))) (hc : vwCl[ci]? = some (Cn, T, N)) (kf : Nat) (hkf : kf < N) (hw : Cond.fieldLink own idx (T kf).1 (T kf).2.1 (T kf).2.2.1 ∈ Ts) (hfin : (T kf).2.2.2 = true) (hini : meth.name = "<init>") (hdecl : (T kf).1 = own) {v : Value} (hn : narrow (ty kf) v = v) (hfit : fits (ty kf) v = true) (hl0 : kf < fs.length) (hw1 : ws.set q0 (a, .inr (ci, fs.set kf v)) = ws1) (d : decode cc pc = .ok (.putfield idx, 3)) (kk : J p l e R s m args below meth c Q G A nL ws1 k n (pc + 3) lo st) : J p l e R s m args below meth c Q G A nL ws k n pc lo (v :: .ref a :: st) := by
  subst hw1
  exact fun H locs ls hP hD hS hl => va_putF C.1.1 C.1.2.1 C.1.2.2.2.2 hin ty hty hnm C.1.2.2.2.1 C.2.2.2.1 hP hD hS q0 he hc kf hkf (C.1.2.2.2.2 _ hw) (fun _ h => h) hfin hini hdecl (hty kf hkf) hn hfit hl0 d (fun H locs hP hD hS => kk H locs ls hP hD hS hl)
theorem fz_vin {j N : Nat} (h : j < N) (hN : N < 2 ^ 31) : vp_in (nI j) N := vp_in_nI h hN
theorem fz_cl {j N : Nat} (h : j < N) (hN : N < 2 ^ 31) : (nI j).toNatClampNeg = j := nI_clamp (by omega)
theorem j_bald (C : fz_C p c s m args nL cc Ts own meth ret G cy A) (q0 : Nat) {a N : Nat} {f : Nat → Int32} (ha : ws[q0]? = some (a, .inl (cy 0, N, .inl f))) {j : Nat} (hj : j < N) (hN : N < 2 ^ 31) {v : Int32} (hv : f j = v) (d : decode cc pc = .ok (.baload, 1)) (kk : J p l e R s m args below meth c Q G A nL ws k n (pc + 1) lo (.int v :: st)) : J p l e R s m args below meth c Q G A nL ws k n pc lo (.int (nI j) :: .ref a :: st) := by
  subst hv
  exact fun H locs ls hP hD hS hl => va_bald C.1.1 C.1.2.1 C.2.2.2.1 hP q0 0 ha rfl (fz_vin hj hN) d (by rw [fz_cl hj hN]; exact kk H locs ls hP hD hS hl)
theorem j_iald (C : fz_C p c s m args nL cc Ts own meth ret G cy A) (q0 : Nat) {a N : Nat} {f : Nat → Int32} (ha : ws[q0]? = some (a, .inl (cy 1, N, .inl f))) {j : Nat} (hj : j < N) (hN : N < 2 ^ 31) {v : Int32} (hv : f j = v) (d : decode cc pc = .ok (.iaload, 1)) (kk : J p l e R s m args below meth c Q G A nL ws k n (pc + 1) lo (.int v :: st)) : J p l e R s m args below meth c Q G A nL ws k n pc lo (.int (nI j) :: .ref a :: st) := by
  subst hv
  exact fun H locs ls hP hD hS hl => va_iald C.1.1 C.1.2.1 C.2.2.2.1 hP q0 1 ha rfl (fz_vin hj hN) d (by rw [fz_cl hj hN]; exact kk H locs ls hP hD hS hl)
theorem j_bast (C : fz_C p c s m args nL cc Ts own meth ret G cy A) (q0 : Nat) {a N : Nat} {f : Nat → Int32} {ws1 : va_W} (ha : ws[q0]? = some (a, .inl (cy 0, N, .inl f))) {j : Nat} (hj : j < N) (hN : N < 2 ^ 31) {x y : Int32} (hx9 : vp_nar .byte x = y) (hw1 : ws.set q0 (a, .inl (cy 0, N, .inl (upd f j y))) = ws1) (d : decode cc pc = .ok (.bastore, 1)) (kk : J p l e R s m args below meth c Q G A nL ws1 k n (pc + 1) lo st) : J p l e R s m args below meth c Q G A nL ws k n pc lo (.int x :: .int (nI j) :: .ref a :: st) := by
  subst hw1; subst hx9
  exact fun H locs ls hP hD hS hl => va_bast C.1.1 C.1.2.1 C.2.2.2.1 hP hD hS q0 0 ha rfl (fz_vin hj hN) d (by rw [fz_cl hj hN]; exact fun H locs hP hD hS => kk H locs ls hP hD hS hl)
theorem j_iast (C : fz_C p c s m args nL cc Ts own meth ret G cy A) (q0 : Nat) {a N : Nat} {f : Nat → Int32} {ws1 : va_W} (ha : ws[q0]? = some (a, .inl (cy 1, N, .inl f))) {j : Nat} (hj : j < N) (hN : N < 2 ^ 31) {x : Int32} (hw1 : ws.set q0 (a, .inl (cy 1, N, .inl (upd f j x))) = ws1) (d : decode cc pc = .ok (.iastore, 1)) (kk : J p l e R s m args below meth c Q G A nL ws1 k n (pc + 1) lo st) : J p l e R s m args below meth c Q G A nL ws k n pc lo (.int x :: .int (nI j) :: .ref a :: st) := by
  subst hw1
  exact fun H locs ls hP hD hS hl => va_iast C.1.1 C.1.2.1 C.2.2.2.1 hP hD hS q0 1 ha rfl (fz_vin hj hN) d (by rw [fz_cl hj hN]; exact fun H locs hP hD hS => kk H locs ls hP hD hS hl)
theorem j_aald (C : fz_C p c s m args nL cc Ts own meth ret G cy A) (q0 t0 : Nat) {a N : Nat} {cA : ClassId} {En : String} {f : Nat → Option Nat} (ha : ws[q0]? = some (a, .inl (cA, N, .inr (.inr (.inr (.inr f)))))) (ht : (fz_ty cy)[t0]? = some (cA, .object En)) {j : Nat} (hj : j < N) (hN : N < 2 ^ 31) {r : Nat} (hv : f j = some r) (d : decode cc pc = .ok (.aaload, 1)) (kk : J p l e R s m args below meth c Q G A nL ws k n (pc + 1) lo (.ref r :: st)) : J p l e R s m args below meth c Q G A nL ws k n pc lo (.int (nI j) :: .ref a :: st) :=
  fun H locs ls hP hD hS hl => va_aldq C.1.1 C.1.2.1 C.2.2.2.1 hP q0 t0 ha ht (fz_vin hj hN) d (by rw [fz_cl hj hN, hv]; exact kk H locs ls hP hD hS hl)
theorem j_aast (C : fz_C p c s m args nL cc Ts own meth ret G cy A) (q0 t0 qk ci : Nat) {a N v : Nat} {cA : ClassId} {r : vw_C} {vs : List Value} {f : Nat → Option Nat} {ws1 : va_W} (ha : ws[q0]? = some (a, .inl (cA, N, .inr (.inr (.inr (.inr f)))))) (ht : (fz_ty cy)[t0]? = some (cA, .object r.1)) (hv : ws[qk]? = some (v, .inr (ci, vs))) (hc : vwCl[ci]? = some r) {j : Nat} (hj : j < N) (hN : N < 2 ^ 31) (hw1 : ws.set q0 (a, .inl (cA, N, .inr (.inr (.inr (.inr (va_up f j (some v))))))) = ws1) (d : decode cc pc = .ok (.aastore, 1)) (kk : J p l e R s m args below meth c Q G A nL ws1 k n (pc + 1) lo st) : J p l e R s m args below meth c Q G A nL ws k n pc lo (.ref v :: .int (nI j) :: .ref a :: st) := by
  subst hw1
  exact fun H locs ls hP hD hS hl => va_astq C.1.1 C.1.2.1 C.2.2.2.1 hP hD hS q0 t0 qk ci ha ht hv hc (fz_vin hj hN) d (by rw [fz_cl hj hN]; exact fun H locs hP hD hS => kk H locs ls hP hD hS hl)
theorem j_alen (C : fz_C p c s m args nL cc Ts own meth ret G cy A) (q0 t0 : Nat) {a : Nat} {cA : ClassId} {x : vp_A} {ty : FieldType} (ha : ws[q0]? = some (a, .inl (cA, x))) (ht : (fz_ty cy)[t0]? = some (cA, ty)) {v : Int32} (hv : Int32.ofNat x.1 = v) (d : decode cc pc = .ok (.arraylength, 1)) (kk : J p l e R s m args below meth c Q G A nL ws k n (pc + 1) lo (.int v :: st)) : J p l e R s m args below meth c Q G A nL ws k n pc lo (.ref a :: st) :=
  fun H locs ls hP hD hS hl => va_alen C.1.1 C.1.2.1 C.2.2.2.1 hP q0 t0 ha ht hv d (kk H locs ls hP hD hS hl)
theorem j_gsg (C : fz_C p c s m args nL cc Ts own meth ret G cy A) {idx : Nat} (hw : Cond.fieldLink own idx "Foldrose" "SIGNS" "[C" ∈ Ts) (d : decode cc pc = .ok (.getstatic idx, 3)) (kk : ∀ t : Nat, va_T .char t 6 fz_sg A s s.heap → J p l e R s m args below meth c Q G A nL ws k n (pc + 3) lo (.ref t :: st)) : J p l e R s m args below meth c Q G A nL ws k n pc lo st := by
  intro H locs ls hP hD hS hl
  obtain ⟨t, a1, a2⟩ := C.2.2.2.2.2.1
  exact va_gets C.1.1 C.1.2.1 a1 hS C.1.2.2.2.1 (C.1.2.2.2.2 _ hw) (fun _ h => h) d (kk t a2 H locs ls hP hD hS hl)
theorem j_cald (C : fz_C p c s m args nL cc Ts own meth ret G cy A) {t : Nat} {f : Nat → Value} {N : Nat} (hT : va_T .char t N f A s s.heap) {j : Nat} (hj : j < N) (hN : N < 2 ^ 31) {v : Value} (hv : f j = v) (d : decode cc pc = .ok (.caload, 1)) (kk : J p l e R s m args below meth c Q G A nL ws k n (pc + 1) lo (v :: st)) : J p l e R s m args below meth c Q G A nL ws k n pc lo (.int (nI j) :: .ref t :: st) :=
  fun H locs ls hP hD hS hl => va_tc C.1.1 C.1.2.1 hT hS (fz_vin hj hN) (by rw [fz_cl hj hN]; exact hv) d (kk H locs ls hP hD hS hl)
theorem fz_RA {U : State} {c1 c2 : ClassId} {ty : FieldType} (h1 : va_RA U c1 ty) (h2 : va_RA U c2 ty) : c1 = c2 := by
  cases ty with
  | object Cn => exact Option.some.inj (h1.choose_spec.choose_spec.2.2.2.symm.trans h2.choose_spec.choose_spec.2.2.2)
  | _ => exact Option.some.inj (h1.symm.trans h2)
theorem fz_Kl {G : va_G} {tys : List (ClassId × FieldType)} {cA : ClassId} {ty : FieldType} {U : State} (h : va_K G vwCl (tys ++ [(cA, ty)]) U) : va_RA U cA ty := (h.2 tys.length (cA, ty) (by simp)).2
theorem j_newa (C : fz_C p c s m args nL cc Ts own meth ret G cy A) {at9 : ArrayType} {ty : FieldType} (t0 : Nat) {cA : ClassId} (hw : Cond.arrayClass (newarray.typeOf at9) ∈ Ts) (hty : newarray.typeOf at9 = ty) (ht : (fz_ty cy)[t0]? = some (cA, ty)) {z : Int32} {N k1 n1 : Nat} {a0 : vp_A} (ha : ∀ cA : ClassId, vp_cell cA a0 = arrV cA N (fun _ => defaultValue ty)) (hz : ¬ z < 0) (hN : z.toNatClampNeg = N) (hby : N * componentBytes ty ≤ 536870912) (hk : k + 1 ≤ R.cells) (hn : n + N ≤ R.slots) (hk1 : k + 1 ≤ k1) (hn1 : n + N ≤ n1) (d : decode cc pc = .ok (.newarray at9, 2)) (kk : ∀ q : Nat, J p l e R s m args below meth c Q G A nL (ws ++ [(q, .inl (cA, a0))]) k1 n1 (pc + 2) lo (.ref q :: st)) : J p l e R s m args below meth c Q G A nL ws k n pc lo (.int z :: st) := by
  intro H locs ls hP hD hS hl
  refine va_newa C.1.1 C.1.2.1 (C.1.2.2.2.2 _ hw) hty C.2.2.2.1 hP hD hS C.2.2.2.2.1 ha hz hN hby hk hn d (fun q cB H1 hK1 hP1 hD1 hS1 => ?_)
  have h1 : va_RA s cB ty := fz_Kl hK1
  have h2 : va_RA s cA ty := (C.2.2.2.1.2 t0 _ ht).2
  have h3 := fz_RA h1 h2
  subst h3
  exact W.widen hk1 hn1 (kk q H1 locs ls hP1 hD1 hS1 hl)
theorem j_anew (C : fz_C p c s m args nL cc Ts own meth ret G cy A) {idx : Nat} {Cn : String} (t0 : Nat) {cA : ClassId} (hw : Cond.classLink own idx Cn ∈ Ts) (ho : va_AO Cn s) (ht : (fz_ty cy)[t0]? = some (cA, .object Cn)) {z : Int32} {N k1 n1 : Nat} (hz : ¬ z < 0) (hN : z.toNatClampNeg = N) (hby : N * 4 ≤ 536870912) (hk : k + 1 ≤ R.cells) (hn : n + N ≤ R.slots) (hk1 : k + 1 ≤ k1) (hn1 : n + N ≤ n1) (d : decode cc pc = .ok (.anewarray idx, 3)) (kk : ∀ q : Nat, J p l e R s m args below meth c Q G A nL (ws ++ [(q, .inl (cA, N, .inr (.inr (.inr (.inr (fun _ => none))))))]) k1 n1 (pc + 3) lo (.ref q :: st)) : J p l e R s m args below meth c Q G A nL ws k n pc lo (.int z :: st) := by
  intro H locs ls hP hD hS hl
  refine va_newq C.1.1 C.1.2.1 C.1.2.2.2.1 (C.1.2.2.2.2 _ hw) ho C.2.2.2.1 hP hD hS C.2.2.2.2.1 hz hN hby hk hn d (fun q cB H1 hK1 hP1 hD1 hS1 => ?_)
  have h1 : va_RA s cB (.object Cn) := fz_Kl hK1
  have h2 : va_RA s cA (.object Cn) := (C.2.2.2.1.2 t0 _ ht).2
  have h3 := fz_RA h1 h2
  subst h3
  exact W.widen hk1 hn1 (kk q H1 locs ls hP1 hD1 hS1 hl)
theorem j_new (C : fz_C p c s m args nL cc Ts own meth ret G cy A) {Cn : String} {T : u_T} {ty : Nat → FieldType} {N ci idx k1 n1 : Nat} {fs : List Value} (hin : ∀ w ∈ u_ws Cn T N, w ∈ Ts) (hty : ∀ k, k < N → parseFieldDescriptor (T k).2.2.1 = some (ty k)) (hw1 : Cond.classLink own idx Cn ∈ Ts) (hw2 : Cond.instantiable Cn N ∈ Ts) (hw3 : Cond.initialized Cn ∈ Ts) (hc : vwCl[ci]? = some (Cn, T, N)) (hfs : ∀ j, j < N → defaultValue (ty j) = vp_V fs j) (hk : k + 1 ≤ R.cells) (hn : n + N ≤ R.slots) (hk1 : k + 1 ≤ k1) (hn1 : n + N ≤ n1) (d : decode cc pc = .ok (.new idx, 3)) (kk : ∀ q : Nat, J p l e R s m args below meth c Q G A nL (ws ++ [(q, .inr (ci, fs))]) k1 n1 (pc + 3) lo (.ref q :: st)) : J p l e R s m args below meth c Q G A nL ws k n pc lo st :=
  fun H locs ls hP hD hS hl => va_new C.1.1 C.1.2.1 C.1.2.2.2.2 hin ty hty C.1.2.2.2.1 (C.1.2.2.2.2 _ hw1) (C.1.2.2.2.2 _ hw2) (C.1.2.2.2.2 _ hw3) C.2.2.2.1 hP hD hS C.2.2.2.2.1 hc hfs hk hn d (fun q H1 hP1 hD1 hS1 => W.widen hk1 hn1 (kk q H1 locs ls hP1 hD1 hS1 hl))
theorem j_oinit (C : fz_C p c s m args nL cc Ts own meth ret G cy A) {idx a : Nat} (hw1 : Cond.methodLink own idx Lib.objectInit ∈ Ts) (hw2 : Cond.instanceMethod Lib.objectInit ∈ Ts) (hw3 : Cond.code Lib.objectInit ⟨#[0xb1]⟩ 1 none ∈ Ts) (hf : 1 ≤ R.frames) (hlo : (st.map fun v => v.category).sum + 12 ≤ R.locals) (d : decode cc pc = .ok (.invokespecial idx, 3)) (kk : J p l e R s m args below meth c Q G A nL ws k n (pc + 3) lo st) : J p l e R s m args below meth c Q G A nL ws k n pc lo (.ref a :: st) :=
  fun H locs ls hP hD hS hl => W.objInit C.1.1 C.1.2.1 C.1.2.2.2.1 (C.1.2.2.2.2 _ hw1) (C.1.2.2.2.2 _ hw2) (C.1.2.2.2.2 _ hw3) rfl (by rw [C.1.2.2.1]; exact hl.1) rfl d hf (by show 2 * 0 + _ + 12 ≤ _; omega) (kk H locs ls hP hD hS hl)
end FZJ
/-! contracts in one form -/
def fz_Pc (G : va_G) (cy : Nat → ClassId) (As : List Value) (wc : va_W) (sz : Nat) : Array Value → State → Prop := va_Pc As (fun U => U.heap.size = sz ∧ va_P G vwCl wc U.heap ∧ va_K G vwCl (fz_ty cy) U ∧ va_D (fun _ => True) wc ∧ fz_S (va_A wc sz) U U.heap)
def fz_B {S : Type} (G : va_G) (w1 : S → va_W) (A : Nat → Prop) (u : S) (t : State) : Prop := va_P G vwCl (w1 u) t.heap ∧ va_D A (w1 u)
def fz_Br {S : Type} (G : va_G) (po : S → Nat → Prop) (w1 : S → Nat → va_W) (A : Nat → Prop) (u : S) (a : Nat) (t : State) : Prop := po u a ∧ va_P G vwCl (w1 u a) t.heap ∧ va_D A (w1 u a)
abbrev fz_rm (fr mc ms lc : Nat) : Room := { frames := fr, cells := mc, slots := ms, locals := lc }
/-- a method that answers a number (or a sign, a truth value) -/
def Ki (l : Launch) (y : MethodName) (wy : List Cond) (G : va_G) (cy : Nat → ClassId) (As : List Value) (wc : va_W) {S : Type} (po : Int32 → S → Prop) (w1 : S → va_W) (fr mc ms lc : Nat) : Prop := ∀ sz, Met l y wy (fz_rm fr mc ms lc) (fz_Pc G cy As wc sz) (va_Qi po (fz_B G w1 (va_A wc sz)) (va_A wc sz)) mc ms (va_A wc sz)
/-- a method that answers nothing -/
def Kv (l : Launch) (y : MethodName) (wy : List Cond) (G : va_G) (cy : Nat → ClassId) (As : List Value) (wc : va_W) {S : Type} (po : S → Prop) (w1 : S → va_W) (fr mc ms lc : Nat) : Prop := ∀ sz, Met l y wy (fz_rm fr mc ms lc) (fz_Pc G cy As wc sz) (va_Qv po (fz_B G w1 (va_A wc sz)) (va_A wc sz)) mc ms (va_A wc sz)
/-- a method that answers a cell -/
def Kr (l : Launch) (y : MethodName) (wy : List Cond) (G : va_G) (cy : Nat → ClassId) (As : List Value) (wc : va_W) {S : Type} (po : S → Nat → Prop) (w1 : S → Nat → va_W) (fr mc ms lc : Nat) : Prop := ∀ sz, Met l y wy (fz_rm fr mc ms lc) (fz_Pc G cy As wc sz) (va_Qr (fun _ => True) (fz_Br G po w1 (va_A wc sz)) (va_A wc sz)) mc ms (va_A wc sz)
/-- a method that throws a named exception; its world is what it was -/
def Kx (l : Launch) (y : MethodName) (wy : List Cond) (G : va_G) (cy : Nat → ClassId) (As : List Value) (wc : va_W) (E : String) (fr mc ms lc : Nat) : Prop := ∀ sz, vx_Met l y wy (fz_rm fr mc ms lc) (fz_Pc G cy As wc sz) (va_Qi (fun (_ : Int32) (_ : Unit) => False) (fun _ _ => True) (va_A wc sz)) (vx_X (fun _ : Unit => True) (fun E9 _ t => E9 = E ∧ va_P G vwCl wc t.heap ∧ va_D (va_A wc sz) wc) (va_A wc sz)) mc ms (va_A wc sz)
theorem fz_blind {G : va_G} {cy : Nat → ClassId} {As : List Value} {wc : va_W} {sz : Nat} : FrameBlind (fz_Pc G cy As wc sz) := fun a U g mk h => by
  obtain ⟨h1, h2, h3, h4, h5, h6⟩ := h
  exact ⟨h1, h2, h3, va_K.moved (u := U) (U := U.calling g mk a) (Vm.Alike.refl U.vm) h4, h5, fz_S.same (u := U) rfl h6⟩
section FZE
variable {p : Program} {l : Launch} {e : Env} {R : Room} {s : State} {m : MethodId} {args : Array Value} {below : List Frame} {meth : Method} {c : Code} {Q : State → Prop} {G : va_G} {cy : Nat → ClassId} {A : Nat → Prop} {nL : Nat} {cc : ByteArray} {Ts : List Cond} {own : String} {ret : Option FieldType}
variable {ws : va_W} {k n pc : Nat} {lo : List (Nat × Value)} {st : List Value}
theorem fz_W0 {As : List Value} {wc : va_W} (hl : (lg_sl As).length ≤ nL) (hP : va_P G vwCl wc s.heap) (hD : va_D A wc) (k : J p l e R s m args below meth c Q G A nL wc 0 0 0 (lv_args 0 As) []) : W p l e R s m args below meth c s.heap [] 0 0 Q (entryFrame m As.toArray nL) := by
  rw [lg_entry_eq]
  exact k s.heap [] _ hP hD va_S.rf (lv_entry As hl)
theorem fz_C0 {y : MethodName} {As : List Value} {wc : va_W} {rm : Room} {ws' : List Cond} {s₁ : State} (hw : Ts = Cond.code y cc nL ret :: ws') (B : BodyLoose p l y (headSpec Ts rm) cc nL ret e s m args below meth c s₁) (hml : c.maxLocals = nL) (h : fz_Pc G cy As wc s.heap.size args s) : fz_C p c s m args nL cc Ts y.cls meth ret G cy (va_A wc s.heap.size) :=
  ⟨⟨B.exec, B.bytes, hml, findClass_of_methodNamed B.named, atoms_spec (ws := Ts) B.pre⟩, B.returns, B.notSynchronized, h.2.2.2.1, fun _ h => Or.inr h, h.2.2.2.2.2⟩
theorem Ki_of {y : MethodName} {wy ws' : List Cond} {As : List Value} {wc : va_W} {S : Type} {po : Int32 → S → Prop} {w1 : S → va_W} {fr mc ms lc : Nat} (hy : plainName y.cls = true) (hw : wy = Cond.code y cc nL ret :: ws') (hl : (lg_sl As).length ≤ nL)
    (body : ∀ (p : Program) (e : Env) (s : State) (m : MethodId) (args : Array Value) (below : List Frame) (meth : Method) (c : Code) (A : Nat → Prop), fz_C p c s m args nL cc wy y.cls meth ret G cy A → meth.name = y.name → J p l e (fz_rm fr mc ms lc) s m args below meth c (MQ below (va_Qi po (fz_B G w1 A) A) args s mc ms A) G A nL wc 0 0 0 (lv_args 0 As) []) : Ki l y wy G cy As wc po w1 fr mc ms lc := by
  intro sz
  refine Met.ofW (cc := cc) (maxL := nL) (ret := ret) hy hw ?_
  intro p e s m args below meth c s₁ B hml hv
  obtain ⟨rfl, rfl, hP, hK, hD, hST⟩ := id hv
  have hC := fz_C0 hw B hml hv
  exact fz_W0 hl hP hD.self (body p e s m _ below meth c _ hC (name_of_methodNamed B.named B.method).1)
theorem Kv_of {y : MethodName} {wy ws' : List Cond} {As : List Value} {wc : va_W} {S : Type} {po : S → Prop} {w1 : S → va_W} {fr mc ms lc : Nat} (hy : plainName y.cls = true) (hw : wy = Cond.code y cc nL none :: ws') (hl : (lg_sl As).length ≤ nL)
    (body : ∀ (p : Program) (e : Env) (s : State) (m : MethodId) (args : Array Value) (below : List Frame) (meth : Method) (c : Code) (A : Nat → Prop), fz_C p c s m args nL cc wy y.cls meth none G cy A → meth.name = y.name → J p l e (fz_rm fr mc ms lc) s m args below meth c (MQ below (va_Qv po (fz_B G w1 A) A) args s mc ms A) G A nL wc 0 0 0 (lv_args 0 As) []) : Kv l y wy G cy As wc po w1 fr mc ms lc := by
  intro sz
  refine Met.ofW (cc := cc) (maxL := nL) (ret := none) hy hw ?_
  intro p e s m args below meth c s₁ B hml hv
  obtain ⟨rfl, rfl, hP, hK, hD, hST⟩ := id hv
  have hC := fz_C0 hw B hml hv
  exact fz_W0 hl hP hD.self (body p e s m _ below meth c _ hC (name_of_methodNamed B.named B.method).1)
theorem Kr_of {y : MethodName} {wy ws' : List Cond} {As : List Value} {wc : va_W} {S : Type} {po : S → Nat → Prop} {w1 : S → Nat → va_W} {fr mc ms lc : Nat} (hy : plainName y.cls = true) (hw : wy = Cond.code y cc nL ret :: ws') (hl : (lg_sl As).length ≤ nL)
    (body : ∀ (p : Program) (e : Env) (s : State) (m : MethodId) (args : Array Value) (below : List Frame) (meth : Method) (c : Code) (A : Nat → Prop), fz_C p c s m args nL cc wy y.cls meth ret G cy A → meth.name = y.name → J p l e (fz_rm fr mc ms lc) s m args below meth c (MQ below (va_Qr (fun _ => True) (fz_Br G po w1 A) A) args s mc ms A) G A nL wc 0 0 0 (lv_args 0 As) []) : Kr l y wy G cy As wc po w1 fr mc ms lc := by
  intro sz
  refine Met.ofW (cc := cc) (maxL := nL) (ret := ret) hy hw ?_
  intro p e s m args below meth c s₁ B hml hv
  obtain ⟨rfl, rfl, hP, hK, hD, hST⟩ := id hv
  have hC := fz_C0 hw B hml hv
  exact fz_W0 hl hP hD.self (body p e s m _ below meth c _ hC (name_of_methodNamed B.named B.method).1)
theorem Kx_of {y : MethodName} {wy ws' : List Cond} {As : List Value} {wc : va_W} {E : String} {fr mc ms lc : Nat} (hy : plainName y.cls = true) (hw : wy = Cond.code y cc nL ret :: ws') (hl : (lg_sl As).length ≤ nL)
    (body : ∀ (p : Program) (e : Env) (s : State) (m : MethodId) (args : Array Value) (below : List Frame) (meth : Method) (c : Code) (A : Nat → Prop), fz_C p c s m args nL cc wy y.cls meth ret G cy A → meth.name = y.name → (∀ x ∈ c.exceptionTable.toList, False) → J p l e (fz_rm fr mc ms lc) s m args below meth c (vx_MQ below (va_Qi (fun (_ : Int32) (_ : Unit) => False) (fun _ _ => True) A) (vx_X (fun _ : Unit => True) (fun E9 _ t => E9 = E ∧ va_P G vwCl wc t.heap ∧ va_D A wc) A) args s mc ms A) G A nL wc 0 0 0 (lv_args 0 As) []) : Kx l y wy G cy As wc E fr mc ms lc := by
  intro sz
  refine vx_ofW (cc := cc) (maxL := nL) (ret := ret) hy hw ?_
  intro p e s m args below meth c s₁ B hml htb hv
  obtain ⟨rfl, rfl, hP, hK, hD, hST⟩ := id hv
  have hC := fz_C0 hw B hml hv
  exact fz_W0 hl hP hD.self (body p e s m _ below meth c _ hC (name_of_methodNamed B.named B.method).1 htb)
theorem fz_at {ws ws1 : va_W} {H : Heap} (is : List Nat) (hs : is.map (fun i => ws[i]?) = ws1.map some) (hP : va_P G vwCl ws H) : va_P G vwCl ws1 H := by
  intro i q hq
  have h1 : (is.map (fun i => ws[i]?))[i]? = some (some q) := by rw [hs, List.getElem?_map, hq]; rfl
  rw [List.getElem?_map] at h1
  cases hi : is[i]? with
  | none => rw [hi] at h1; cases h1
  | some i2 => rw [hi] at h1; exact hP i2 q (Option.some.inj h1)
theorem j_iret (C : fz_C p c s m args nL cc Ts own meth ret G cy A) {S : Type} {po : Int32 → S → Prop} {w1 : S → va_W} {mc ms : Nat} {v : Int32} {ty : FieldType} (hr : ret = some ty) (hty : narrow ty (.int v) = .int v) (u : S) (hp : po v u) (is : List Nat) (hs : is.map (fun i => ws[i]?) = (w1 u).map some) (hn : va_nd is = true) (hk : k ≤ mc) (hm : n ≤ ms) (d : decode cc pc = .ok (.ireturn, 1)) : J p l e R s m args below meth c (MQ below (va_Qi po (fz_B G w1 A) A) args s mc ms A) G A nL ws k n pc lo [.int v] :=
  fun H locs ls hP hD hS hl => W.widen hk hm (W.zret C.1.1 C.1.2.1 (C.2.1.trans hr) hty (fun t ht hW => ⟨⟨v, u, rfl, hp, by rw [ht]; exact fz_at is hs hP, hD.sub is hn hs⟩, hS.F ht⟩) hS.2.2 d C.2.2.1)
theorem j_vret (C : fz_C p c s m args nL cc Ts own meth none G cy A) {S : Type} {po : S → Prop} {w1 : S → va_W} {mc ms : Nat} (u : S) (hp : po u) (is : List Nat) (hs : is.map (fun i => ws[i]?) = (w1 u).map some) (hn : va_nd is = true) (hk : k ≤ mc) (hm : n ≤ ms) (d : decode cc pc = .ok (.return_, 1)) : J p l e R s m args below meth c (MQ below (va_Qv po (fz_B G w1 A) A) args s mc ms A) G A nL ws k n pc lo [] :=
  fun H locs ls hP hD hS hl => W.widen hk hm (W.vret C.1.1 C.1.2.1 C.2.1 (fun t ht hW => ⟨⟨u, rfl, hp, by rw [ht]; exact fz_at is hs hP, hD.sub is hn hs⟩, hS.F ht⟩) hS.2.2 d C.2.2.1)
theorem j_aret (C : fz_C p c s m args nL cc Ts own meth ret G cy A) {S : Type} {po : S → Nat → Prop} {w1 : S → Nat → va_W} {mc ms a : Nat} {ty : FieldType} (hr : ret = some ty) (hrt : (∃ n, ty = .object n) ∨ ∃ t, ty = .array t) (u : S) (hp : po u a) (is : List Nat) (hs : is.map (fun i => ws[i]?) = (w1 u a).map some) (hn : va_nd is = true) (hk : k ≤ mc) (hm : n ≤ ms) (d : decode cc pc = .ok (.areturn, 1)) : J p l e R s m args below meth c (MQ below (va_Qr (fun _ => True) (fz_Br G po w1 A) A) args s mc ms A) G A nL ws k n pc lo [.ref a] :=
  fun H locs ls hP hD hS hl => W.widen hk hm (W.aret (v := .ref a) C.1.1 C.1.2.1 (C.2.1.trans hr) hrt (Or.inr ⟨a, rfl⟩) (fun t ht hW => ⟨⟨u, a, rfl, trivial, hp, by rw [ht]; exact fz_at is hs hP, hD.sub is hn hs⟩, hS.F ht⟩) hS.2.2 d C.2.2.1)
/-- a call about to run: what it gives, over the world that it takes -/
def JR (p : Program) (l : Launch) (e : Env) (R : Room) (s : State) (m : MethodId) (args : Array Value) (below : List Frame) (meth : Method) (c : Code) (G : va_G) (A : Nat → Prop) (nL : Nat) (ws wc : va_W) (isC : List Nat) (k n mc ms pc : Nat) (lo : List (Nat × Value)) (st st0 : List Value) (Qa : Nat → State → Outcome → State → Prop) : Prop :=
  isC.map (fun i => ws[i]?) = wc.map some ∧ ∀ (H : Heap) (locs : List Loc) (ls : Array Slot), va_P G vwCl ws H → va_D A ws → va_S A s.heap H locs → lv_has ls nL lo → va_Run p l e R s m args below meth c H locs k n mc ms (F0 m pc ls st0) st (Qa H.size) (va_A wc H.size)
theorem fz_pre (C : fz_C p c s m args nL cc Ts own meth ret G cy A) {wc : va_W} {As : List Value} {H : Heap} {locs : List Loc} (isC : List Nat) (hC : isC.map (fun i => ws[i]?) = wc.map some) (hn : va_nd isC = true) (hP : va_P G vwCl ws H) (hD : va_D A ws) (hS : va_S A s.heap H locs) (U : State) (hU : U.heap = H) (hW : s.WarmedH U.vm) : fz_Pc G cy As wc H.size As.toArray U := by
  have hF := va_free (wc := wc) hD hS C.2.2.2.2.1 isC hC
  refine ⟨rfl, by rw [hU], by rw [hU]; exact fz_at isC hC hP, va_K.moved hW.alike C.2.2.2.1, (hD.sub isC hn hC).weaken (fun _ _ _ _ => trivial), ?_⟩
  rw [hU]
  exact fz_S.warm hW ((C.2.2.2.2.2.kept hS.2.1).narrow hF)
theorem j_runV (C : fz_C p c s m args nL cc Ts own meth ret G cy A) {y : MethodName} {wy ws' : List Cond} {Cn : String} {idx maxL fr mc ms lc a ci : Nat} {bytes : ByteArray} {rt : Option FieldType} {As : List Value} {wc : va_W} {Qc : Nat → Array Value → State → Outcome → State → Prop} {fs : List Value} {r : vw_C} (M : ∀ sz, Met l y wy (fz_rm fr mc ms lc) (fz_Pc G cy (.ref a :: As) wc sz) (Qc sz) mc ms (va_A wc sz)) (g : GoodIn Ts (wsV own idx Cn y wy)) (hw : wy = Cond.code y bytes maxL rt :: ws')
    (hd : y.cls = Cn ∧ y.cls ≠ "java/lang/invoke/MethodHandle" ∧ y.cls ≠ "java/lang/invoke/VarHandle" ∧ (parseMethodDescriptor y.desc).map (fun d => d.parameters.length) = some As.length) (hR : fr + 1 ≤ R.frames ∧ 8 + (maxL + 11) + lc ≤ R.locals) (hm : k + mc ≤ R.cells ∧ n + ms ≤ R.slots)
    (q0 : Nat) (he : ws[q0]? = some (a, .inr (ci, fs))) (hc : vwCl[ci]? = some r) (hr : r.1 = Cn) (isC : List Nat) (hC : isC.map (fun i => ws[i]?) = wc.map some) (hn : va_nd isC = true) {st0 : List Value} (hst : st0 = As.reverse ++ .ref a :: st) (hsm : (st.map fun v => v.category).sum ≤ 8) (d : decode cc pc = .ok (.invokevirtual idx, 3)) :
    JR p l e R s m args below meth c G A nL ws wc isC k n mc ms pc lo st st0 (fun sz => Qc sz (Value.ref a :: As).toArray) :=
  ⟨hC, fun H locs ls hP hD hS hl => va_runV (As := As) (rest := st) C.1 (M H.size) (cwV As.length C.1.2.2.2.2 g hw rfl rfl hd hR) ⟨fz_blind, by rw [← hr]; exact va_recv C.2.2.2.1 hP hc he, fun U hU hW => fz_pre C isC hC hn hP hD hS U hU hW⟩ rfl rfl hl.1 hst (lv_room hsm) d hm⟩
theorem j_runS (C : fz_C p c s m args nL cc Ts own meth ret G cy A) {y : MethodName} {wy ws' : List Cond} {idx maxL fr mc ms lc : Nat} {bytes : ByteArray} {rt : Option FieldType} {As : List Value} {wc : va_W} {Qc : Nat → Array Value → State → Outcome → State → Prop} (M : ∀ sz, Met l y wy (fz_rm fr mc ms lc) (fz_Pc G cy As wc sz) (Qc sz) mc ms (va_A wc sz)) (g : GoodIn Ts (va_wsS own idx y wy)) (hw : wy = Cond.code y bytes maxL rt :: ws')
    (hd : y.cls ≠ "java/lang/invoke/MethodHandle" ∧ y.cls ≠ "java/lang/invoke/VarHandle" ∧ (parseMethodDescriptor y.desc).map (fun d => d.parameters.length) = some As.length) (hR : fr + 1 ≤ R.frames ∧ 8 + (maxL + 11) + lc ≤ R.locals) (hm : k + mc ≤ R.cells ∧ n + ms ≤ R.slots)
    (isC : List Nat) (hC : isC.map (fun i => ws[i]?) = wc.map some) (hn : va_nd isC = true) {st0 : List Value} (hst : st0 = As.reverse ++ st) (hsm : (st.map fun v => v.category).sum ≤ 8) (d : decode cc pc = .ok (.invokestatic idx, 3)) :
    JR p l e R s m args below meth c G A nL ws wc isC k n mc ms pc lo st st0 (fun sz => Qc sz As.toArray) :=
  ⟨hC, fun H locs ls hP hD hS hl => va_runS (As := As) (rest := st) C.1 (M H.size) (va_cwS As.length C.1.2.2.2.2 g hw rfl rfl hd hR) ⟨fz_blind, fun U hU hW => fz_pre C isC hC hn hP hD hS U hU hW⟩ rfl rfl hl.1 hst (lv_room hsm) d hm⟩
/-- a static call of a method with an exception table -/
theorem j_runW (C : fz_C p c s m args nL cc Ts own meth ret G cy A) {y : MethodName} {wy ws' : List Cond} {idx maxL fr mc ms lc : Nat} {bytes : ByteArray} {rt : Option FieldType} {hh : List (Nat × Nat × Nat × Nat)} {As : List Value} {wc : va_W} {Qc : Nat → Array Value → State → Outcome → State → Prop} (M : ∀ sz, Met l y wy (fz_rm fr mc ms lc) (fz_Pc G cy As wc sz) (Qc sz) mc ms (va_A wc sz)) (g : GoodIn Ts (va_wsS own idx y wy)) (hw : wy = Cond.codeWith y bytes maxL rt hh :: ws')
    (hd : y.cls ≠ "java/lang/invoke/MethodHandle" ∧ y.cls ≠ "java/lang/invoke/VarHandle" ∧ (parseMethodDescriptor y.desc).map (fun d => d.parameters.length) = some As.length) (hR : fr + 1 ≤ R.frames ∧ 8 + (maxL + 11) + lc ≤ R.locals) (hm : k + mc ≤ R.cells ∧ n + ms ≤ R.slots)
    (isC : List Nat) (hC : isC.map (fun i => ws[i]?) = wc.map some) (hn : va_nd isC = true) {st0 : List Value} (hst : st0 = As.reverse ++ st) (hsm : (st.map fun v => v.category).sum ≤ 8) (d : decode cc pc = .ok (.invokestatic idx, 3)) :
    JR p l e R s m args below meth c G A nL ws wc isC k n mc ms pc lo st st0 (fun sz => Qc sz As.toArray) :=
  ⟨hC, fun H locs ls hP hD hS hl => vx_runSW (As := As) (rest := st) C.1 (M H.size) (vx_cwSW As.length C.1.2.2.2.2 g hw rfl rfl hd hR) ⟨fz_blind, fun U hU hW => fz_pre C isC hC hn hP hD hS U hU hW⟩ rfl rfl hl.1 hst (lv_room hsm) d hm⟩
theorem j_runI (C : fz_C p c s m args nL cc Ts own meth ret G cy A) {y : MethodName} {wy ws' : List Cond} {idx maxL fr mc ms lc a : Nat} {bytes : ByteArray} {As : List Value} {wc : va_W} {Qc : Nat → Array Value → State → Outcome → State → Prop} (M : ∀ sz, Met l y wy (fz_rm fr mc ms lc) (fz_Pc G cy (.ref a :: As) wc sz) (Qc sz) mc ms (va_A wc sz)) (g : GoodIn Ts wy) (hw : wy = Cond.code y bytes maxL none :: ws') (h1 : Cond.initialized y.cls ∈ Ts) (h2 : Cond.methodLink own idx y ∈ Ts) (h3 : Cond.instanceMethod y ∈ Ts) (h4 : y.name = "<init>")
    (hd : y.cls ≠ "java/lang/invoke/MethodHandle" ∧ y.cls ≠ "java/lang/invoke/VarHandle" ∧ (parseMethodDescriptor y.desc).map (fun d => d.parameters.length) = some As.length) (hR : fr + 1 ≤ R.frames ∧ 8 + (maxL + 11) + lc ≤ R.locals) (hm : k + mc ≤ R.cells ∧ n + ms ≤ R.slots)
    (isC : List Nat) (hC : isC.map (fun i => ws[i]?) = wc.map some) (hn : va_nd isC = true) {st0 : List Value} (hst : st0 = As.reverse ++ .ref a :: st) (hsm : (st.map fun v => v.category).sum ≤ 8) (d : decode cc pc = .ok (.invokespecial idx, 3)) :
    JR p l e R s m args below meth c G A nL ws wc isC k n mc ms pc lo st st0 (fun sz => Qc sz (Value.ref a :: As).toArray) :=
  ⟨hC, fun H locs ls hP hD hS hl => va_runI (As := As) (rest := st) C.1 (M H.size) (cwI As.length C.1.2.2.2.2 g hw rfl rfl (C.1.2.2.2.2 _ h1) (C.1.2.2.2.2 _ h2) (C.1.2.2.2.2 _ h3) h4 hd hR) ⟨fz_blind, fun U hU hW => fz_pre C isC hC hn hP hD hS U hU hW⟩ rfl rfl hl.1 hst (lv_room hsm) d hm⟩
/-- a constructor of a nest mate -/
theorem j_runN (C : fz_C p c s m args nL cc Ts own meth ret G cy A) {y : MethodName} {wy ws' : List Cond} {host : String} {idx maxL fr mc ms lc a : Nat} {bytes : ByteArray} {As : List Value} {wc : va_W} {Qc : Nat → Array Value → State → Outcome → State → Prop} (M : ∀ sz, Met l y wy (fz_rm fr mc ms lc) (fz_Pc G cy (.ref a :: As) wc sz) (Qc sz) mc ms (va_A wc sz)) (g : GoodIn Ts wy) (hw : wy = Cond.code y bytes maxL none :: ws') (h1 : Cond.initialized y.cls ∈ Ts) (h2 : va_Nw (.methodLinkNest own idx y host) s) (h3 : Cond.instanceMethod y ∈ Ts) (h4 : y.name = "<init>")
    (hd : y.cls ≠ "java/lang/invoke/MethodHandle" ∧ y.cls ≠ "java/lang/invoke/VarHandle" ∧ (parseMethodDescriptor y.desc).map (fun d => d.parameters.length) = some As.length) (hR : fr + 1 ≤ R.frames ∧ 8 + (maxL + 11) + lc ≤ R.locals) (hm : k + mc ≤ R.cells ∧ n + ms ≤ R.slots)
    (isC : List Nat) (hC : isC.map (fun i => ws[i]?) = wc.map some) (hn : va_nd isC = true) {st0 : List Value} (hst : st0 = As.reverse ++ .ref a :: st) (hsm : (st.map fun v => v.category).sum ≤ 8) (d : decode cc pc = .ok (.invokespecial idx, 3)) :
    JR p l e R s m args below meth c G A nL ws wc isC k n mc ms pc lo st st0 (fun sz => Qc sz (Value.ref a :: As).toArray) :=
  ⟨hC, fun H locs ls hP hD hS hl => va_runIN (As := As) (rest := st) C.1 (M H.size) ⟨va_cnB As.length C.1.2.2.2.2 g hw rfl rfl h2 (C.1.2.2.2.2 _ h1) hd hR, h4, C.1.2.2.2.2 _ h3⟩ ⟨fz_blind, fun U hU hW => fz_pre C isC hC hn hP hD hS U hU hW⟩ rfl rfl hl.1 hst (lv_room hsm) d hm⟩
theorem fz_behind {H H1 : Heap} {locs : List Loc} {wc : va_W} {isC : List Nat} (hA0 : ∀ q, s.heap.size ≤ q → A q) (hC : isC.map (fun i => ws[i]?) = wc.map some) (hP : va_P G vwCl ws H) (hD : va_D A ws) (hS : va_S A s.heap H locs) {wr w1 : va_W} (isR : List Nat) (hR : isR.map (fun i => ws[i]?) = wr.map some) (hn : va_nd isR = true) (hdis : ∀ i ∈ isR, i ∉ isC) (hk : ∀ q : Nat, q < H.size → ¬ va_A wc H.size q → H1[q]? = H[q]?) (hP1 : va_P G vwCl w1 H1) (hD1 : va_D (va_A wc H.size) w1) : va_P G vwCl (wr ++ w1) H1 ∧ va_D A (wr ++ w1) :=
  va_join hP hD isC isR hC hR hn hdis hk (va_free hD hS hA0 isC hC) hP1 hD1
theorem j_resi (C : fz_C p c s m args nL cc Ts own meth ret G cy A) {S : Type} {po : Int32 → S → Prop} {w1 : S → va_W} {wc wr : va_W} {isC : List Nat} {mc ms k1 n1 : Nat} {st0 : List Value} {av : Array Value} (h : JR p l e R s m args below meth c G A nL ws wc isC k n mc ms pc lo st st0 (fun sz => va_Qi po (fz_B G w1 (va_A wc sz)) (va_A wc sz) av)) (isR : List Nat) (hR : isR.map (fun i => ws[i]?) = wr.map some) (hn : va_nd isR = true) (hdis : ∀ i ∈ isR, i ∉ isC) (hk1 : k + mc ≤ k1) (hn1 : n + ms ≤ n1)
    (kk : ∀ (r : Int32) (u : S), po r u → J p l e R s m args below meth c Q G A nL (wr ++ w1 u) k1 n1 (pc + 3) lo (.int r :: st)) : J p l e R s m args below meth c Q G A nL ws k n pc lo st0 := by
  intro H locs ls hP hD hS hl
  have hF := va_free (wc := wc) hD hS C.2.2.2.2.1 isC h.1
  refine va_calli (h.2 H locs ls hP hD hS hl) hS (fun q _ z => hF q z) hF (fun r u t H1 locs1 ht hvm hp hB hz hk hS1 => ?_)
  obtain ⟨hP1, hD1⟩ := hB
  rw [ht] at hP1
  obtain ⟨a1, a2⟩ := fz_behind C.2.2.2.2.1 h.1 hP hD hS isR hR hn hdis hk hP1 hD1
  exact W.widen hk1 hn1 (kk r u hp H1 locs1 ls a1 a2 hS1 hl)
theorem j_resv (C : fz_C p c s m args nL cc Ts own meth ret G cy A) {S : Type} {po : S → Prop} {w1 : S → va_W} {wc wr : va_W} {isC : List Nat} {mc ms k1 n1 : Nat} {st0 : List Value} {av : Array Value} (h : JR p l e R s m args below meth c G A nL ws wc isC k n mc ms pc lo st st0 (fun sz => va_Qv po (fz_B G w1 (va_A wc sz)) (va_A wc sz) av)) (isR : List Nat) (hR : isR.map (fun i => ws[i]?) = wr.map some) (hn : va_nd isR = true) (hdis : ∀ i ∈ isR, i ∉ isC) (hk1 : k + mc ≤ k1) (hn1 : n + ms ≤ n1)
    (kk : ∀ (u : S), po u → J p l e R s m args below meth c Q G A nL (wr ++ w1 u) k1 n1 (pc + 3) lo st) : J p l e R s m args below meth c Q G A nL ws k n pc lo st0 := by
  intro H locs ls hP hD hS hl
  have hF := va_free (wc := wc) hD hS C.2.2.2.2.1 isC h.1
  refine va_callv (h.2 H locs ls hP hD hS hl) hS (fun q _ z => hF q z) hF (fun u t H1 locs1 ht hvm hp hB hz hk hS1 => ?_)
  obtain ⟨hP1, hD1⟩ := hB
  rw [ht] at hP1
  obtain ⟨a1, a2⟩ := fz_behind C.2.2.2.2.1 h.1 hP hD hS isR hR hn hdis hk hP1 hD1
  exact W.widen hk1 hn1 (kk u hp H1 locs1 ls a1 a2 hS1 hl)
theorem j_resr (C : fz_C p c s m args nL cc Ts own meth ret G cy A) {S : Type} {po : S → Nat → Prop} {w1 : S → Nat → va_W} {wc wr : va_W} {isC : List Nat} {mc ms k1 n1 : Nat} {st0 : List Value} {av : Array Value} (h : JR p l e R s m args below meth c G A nL ws wc isC k n mc ms pc lo st st0 (fun sz => va_Qr (fun _ => True) (fz_Br G po w1 (va_A wc sz)) (va_A wc sz) av)) (isR : List Nat) (hR : isR.map (fun i => ws[i]?) = wr.map some) (hn : va_nd isR = true) (hdis : ∀ i ∈ isR, i ∉ isC) (hk1 : k + mc ≤ k1) (hn1 : n + ms ≤ n1)
    (kk : ∀ (u : S) (a : Nat), po u a → J p l e R s m args below meth c Q G A nL (wr ++ w1 u a) k1 n1 (pc + 3) lo (.ref a :: st)) : J p l e R s m args below meth c Q G A nL ws k n pc lo st0 := by
  intro H locs ls hP hD hS hl
  have hF := va_free (wc := wc) hD hS C.2.2.2.2.1 isC h.1
  refine va_callr (h.2 H locs ls hP hD hS hl) hS (fun q _ z => hF q z) hF (fun u a t H1 locs1 ht hvm hp hB hz hk hS1 => ?_)
  obtain ⟨hp, hP1, hD1⟩ := hB
  rw [ht] at hP1
  obtain ⟨a1, a2⟩ := fz_behind C.2.2.2.2.1 h.1 hP hD hS isR hR hn hdis hk hP1 hD1
  exact W.widen hk1 hn1 (kk u a hp H1 locs1 ls a1 a2 hS1 hl)
/-- a call about to run that throws -/
def JRX (p : Program) (l : Launch) (e : Env) (R : Room) (s : State) (m : MethodId) (args : Array Value) (below : List Frame) (meth : Method) (c : Code) (G : va_G) (A : Nat → Prop) (nL : Nat) (ws wc : va_W) (isC : List Nat) (k n mc ms pc : Nat) (lo : List (Nat × Value)) (st st0 : List Value) (E : String) : Prop :=
  isC.map (fun i => ws[i]?) = wc.map some ∧ ∀ (H : Heap) (locs : List Loc) (ls : Array Slot), va_P G vwCl ws H → va_D A ws → va_S A s.heap H locs → lv_has ls nL lo → vx_Run p l e R s m args below meth c H locs k n mc ms (F0 m pc ls st0) st (va_Qi (fun (_ : Int32) (_ : Unit) => False) (fun _ _ => True) (va_A wc H.size) #[]) (vx_X (fun _ : Unit => True) (fun E9 _ t => E9 = E ∧ va_P G vwCl wc t.heap ∧ va_D (va_A wc H.size) wc) (va_A wc H.size)) (va_A wc H.size)
theorem j_runX (C : fz_C p c s m args nL cc Ts own meth ret G cy A) {y : MethodName} {wy ws' : List Cond} {Cn E : String} {idx maxL fr mc ms lc a ci : Nat} {bytes : ByteArray} {rt : Option FieldType} {As : List Value} {wc : va_W} {fs : List Value} {r : vw_C} (M : Kx l y wy G cy (.ref a :: As) wc E fr mc ms lc) (g : GoodIn Ts (wsV own idx Cn y wy)) (hw : wy = Cond.code y bytes maxL rt :: ws')
    (hd : y.cls = Cn ∧ y.cls ≠ "java/lang/invoke/MethodHandle" ∧ y.cls ≠ "java/lang/invoke/VarHandle" ∧ (parseMethodDescriptor y.desc).map (fun d => d.parameters.length) = some As.length) (hR : fr + 1 ≤ R.frames ∧ 8 + (maxL + 11) + lc ≤ R.locals) (hm : k + mc ≤ R.cells ∧ n + ms ≤ R.slots)
    (q0 : Nat) (he : ws[q0]? = some (a, .inr (ci, fs))) (hc : vwCl[ci]? = some r) (hr : r.1 = Cn) (isC : List Nat) (hC : isC.map (fun i => ws[i]?) = wc.map some) (hn : va_nd isC = true) {st0 : List Value} (hst : st0 = As.reverse ++ .ref a :: st) (hsm : (st.map fun v => v.category).sum ≤ 8) (d : decode cc pc = .ok (.invokevirtual idx, 3)) :
    JRX p l e R s m args below meth c G A nL ws wc isC k n mc ms pc lo st st0 E :=
  ⟨hC, fun H locs ls hP hD hS hl => vx_runV (As := As) (rest := st) C.1 (M H.size) (cwV As.length C.1.2.2.2.2 g hw rfl rfl hd hR) ⟨fz_blind, by rw [← hr]; exact va_recv C.2.2.2.1 hP hc he, fun U hU hW => fz_pre C isC hC hn hP hD hS U hU hW⟩ rfl rfl hl.1 hst (lv_room hsm) d hm⟩
theorem j_resx (C : fz_C p c s m args nL cc Ts own meth ret G cy A) {E : String} {wc wr : va_W} {isC : List Nat} {mc ms k1 n1 : Nat} {st0 : List Value} (h : JRX p l e R s m args below meth c G A nL ws wc isC k n mc ms pc lo st st0 E) (isR : List Nat) (hR : isR.map (fun i => ws[i]?) = wr.map some) (hn : va_nd isR = true) (hdis : ∀ i ∈ isR, i ∉ isC) (hk1 : k + mc ≤ k1) (hn1 : n + ms ≤ n1)
    (kk : JX p l e R s m args below meth c Q G A nL (wr ++ wc) k1 n1 pc lo E) : J p l e R s m args below meth c Q G A nL ws k n pc lo st0 := by
  intro H locs ls hP hD hS hl
  have hF := va_free (wc := wc) hD hS C.2.2.2.2.1 isC h.1
  refine vx_calli (h.2 H locs ls hP hD hS hl) hS (fun q _ z => hF q z) hF (fun q _ z => hF q z) (fun E9 ce q9 u t H1 locs1 ht hvm hp hB hz hk hS1 hce hcv hcl => ?_) (fun r u t H1 locs1 ht hvm hp hB hz hk hS1 => hp.elim)
  obtain ⟨rfl, hP1, hD1⟩ := hB
  rw [ht] at hP1
  obtain ⟨a1, a2⟩ := fz_behind C.2.2.2.2.1 h.1 hP hD hS isR hR hn hdis hk hP1 hD1
  exact vx_widen hk1 hn1 (kk H1 locs1 ls st ce q9 a1 a2 hS1 hl hce hcv hcl)
/-- it goes on to the caller -/
theorem j_out (C : fz_C p c s m args nL cc Ts own meth ret G cy A) {E : String} {wc : va_W} {mc ms : Nat} (htb : ∀ x ∈ c.exceptionTable.toList, False) (is : List Nat) (hs : is.map (fun i => ws[i]?) = wc.map some) (hn : va_nd is = true) (hk : k ≤ mc) (hm : n ≤ ms) : JX p l e R s m args below meth c (vx_MQ below (va_Qi (fun (_ : Int32) (_ : Unit) => False) (fun _ _ => True) A) (vx_X (fun _ : Unit => True) (fun E9 _ t => E9 = E ∧ va_P G vwCl wc t.heap ∧ va_D A wc) A) args s mc ms A) G A nL ws k n pc lo E :=
  fun H locs ls st ce q hP hD hS hl hce hcv hcl => vx_out (fun x hx => (htb x hx).elim) C.2.2.1 hce hcv hcl (fun t ht hW => ⟨(), trivial, ⟨rfl, by rw [ht]; exact fz_at is hs hP, hD.sub is hn hs⟩, hS.F ht⟩) hS.2.2 hk hm
/-- caught here -/
theorem j_catch (C : fz_C p c s m args nL cc Ts own meth ret G cy A) {E : String} (hE : E ∈ fz_ex) (pre : List ExceptionTableEntry) (x : ExceptionTableEntry) (suf : List ExceptionTableEntry) (hsplit : c.exceptionTable.toList = pre ++ x :: suf) (hpass : ∀ z ∈ pre, ∃ nm : String, Cond.classLink own z.catchType nm ∈ Ts ∧ z.catchType ≠ 0 ∧ (E, nm) ∈ fz_nc) (hx : covers x pc = true) (h0 : x.catchType ≠ 0) (hw : Cond.classLink own x.catchType E ∈ Ts) {hp : Nat} (hhp : x.handlerPc = hp)
    (kk : ∀ q : Nat, J p l e R s m args below meth c Q G A nL ws k n hp lo [.ref q]) : JX p l e R s m args below meth c Q G A nL ws k n pc lo E := by
  intro H locs ls st ce q hP hD hS hl hce hcv hcl
  refine vx_catch C.1.2.2.2.1 pre x suf hsplit (fun z hz => Or.inr ?_) hx h0 (C.1.2.2.2.2 _ hw) (va_Nw.use rfl (C.2.2.2.2.2.2.2.2.2.2.2.1 E hE)) hce hcv hcl (by rw [hhp]; exact kk q H locs ls hP hD hS hl)
  obtain ⟨nm, h1, h2, h3⟩ := hpass z hz
  exact ⟨h2, nm, C.1.2.2.2.2 _ h1, C.2.2.2.2.2.2.2.2.2.2.2.2.1 _ h3⟩
theorem fz_hat {Ts : List Cond} {args : Array Value} {s : State} {L : List Cond} {E : String} (ht : ∀ w ∈ Ts, w.before args s = true) (h1 : ∀ w ∈ L.filter goodWord, w ∈ Ts) (h2 : ∀ w ∈ L.filter (fun w => !goodWord w), w = Cond.castable E E) (h3 : va_Nw (.castable E E) s) : ∀ w ∈ L, w.before args s = true :=
  vx_hat (B := [Cond.castable E E]) (fun w hw => ht w (h1 w hw)) (fun w hw => by rw [h2 w hw]; exact List.mem_cons_self) (vx_c (va_Nw.use rfl h3) vx_n)
theorem j_throw (C : fz_C p c s m args nL cc Ts own meth ret G cy A) (hl9 : l.stackTraces = false) {E text : String} (names : List String) {ik is9 ic mc ms : Nat} {wc : va_W} (hE : E ∈ fz_ex) (hcls : Bundle.fit E = true) (hnames : ∀ n ∈ names, Bundle.fit n = true) (hk : Cond.classLink own ik E ∈ Ts) (hini : Cond.initialized E ∈ Ts) (ho : own = RX9) (htx : (is9, text) ∈ fz_tx) (hg1 : ∀ w ∈ (vx_atS own ic E names).filter goodWord, w ∈ Ts) (hg2 : ∀ w ∈ (vx_atS own ic E names).filter (fun w => !goodWord w), w = Cond.castable E E)
    (hgood : ∀ w ∈ Cond.classLink own ik E :: Cond.initialized E :: vx_atS own ic E names, vx_ot w = true)
    (d0 : decode cc pc = .ok (.new ik, 3)) (d3 : decode cc (pc + 3) = .ok (.dup, 1)) (d4 : decode cc (pc + 4) = .ok (.ldc is9, 2)) (d6 : decode cc (pc + 6) = .ok (.invokespecial ic, 3)) (d9 : decode cc (pc + 9) = .ok (.athrow, 1))
    (htb : ∀ x ∈ c.exceptionTable.toList, False) (hRf : names.length + 3 < R.frames) (hRl : (st.map fun v => v.category).sum + (13 * (names.length + 1) + 43) ≤ R.locals) (hRc : k + 1 ≤ R.cells) (hRs : n + 6 ≤ R.slots) (is : List Nat) (hs : is.map (fun i => ws[i]?) = wc.map some) (hn : va_nd is = true) (hc : k + 1 ≤ mc) (hm : n + 6 ≤ ms) :
    J p l e R s m args below meth c (vx_MQ below (va_Qi (fun (_ : Int32) (_ : Unit) => False) (fun _ _ => True) A) (vx_X (fun _ : Unit => True) (fun E9 _ t => E9 = E ∧ va_P G vwCl wc t.heap ∧ va_D A wc) A) args s mc ms A) G A nL ws k n pc lo st := by
  intro H locs ls hP hD hS hl
  obtain ⟨sa, hsa⟩ := C.2.2.2.2.2.2.2.1 _ htx
  rw [← ho] at hsa
  refine vx_throwS C.1.1 C.1.2.1 hl9 (names := names) (sa := sa) (text := text) (is := is9) C.1.2.2.2.1 hcls hnames (C.1.2.2.2.2 _ hk) (C.1.2.2.2.2 _ hini) hsa (fz_hat C.1.2.2.2.2 hg1 hg2 (C.2.2.2.2.2.2.2.2.2.2.2.1 E hE)) hgood C.2.2.2.2.2.2.1.1 C.2.2.2.2.2.2.1.2 hS (by rw [C.1.2.2.1]; exact hl.1) d0 d3 d4 d6 d9 (fun x hx => (htb x hx).elim) hRf hRl hRc hRs C.2.2.1 (fun t hvm hz hq => ⟨(), trivial, ⟨rfl, ?_, hD.sub is hn hs⟩, Nat.le_trans hS.1 hz, fun q h1 h2 => (hq q (Nat.lt_of_lt_of_le h1 hS.1)).trans (hS.2.1 q h1 h2)⟩) hS.2.2 hc hm
  exact (fz_at is hs hP).kept (fun i q hq9 => hq q.1 ((fz_at is hs hP i q hq9).lt))
theorem j_throwW (C : fz_C p c s m args nL cc Ts own meth ret G cy A) (hl9 : l.stackTraces = false) {E text : String} (names : List String) {ik is9 ic mc ms : Nat} {wc : va_W} (hE : E ∈ fz_ex) (hcls : Bundle.fit E = true) (hnames : ∀ n ∈ names, Bundle.fit n = true) (hk : Cond.classLink own ik E ∈ Ts) (hini : Cond.initialized E ∈ Ts) (ho : own = RX9) (htx : (is9, text) ∈ fz_tx) (hg1 : ∀ w ∈ (vx_atS own ic E names).filter goodWord, w ∈ Ts) (hg2 : ∀ w ∈ (vx_atS own ic E names).filter (fun w => !goodWord w), w = Cond.castable E E)
    (hgood : ∀ w ∈ Cond.classLink own ik E :: Cond.initialized E :: vx_atS own ic E names, vx_ot w = true)
    (d0 : decode cc pc = .ok (.new ik, 3)) (d3 : decode cc (pc + 3) = .ok (.dup, 1)) (d4 : decode cc (pc + 4) = .ok (.ldc_w is9, 3)) (d7 : decode cc (pc + 7) = .ok (.invokespecial ic, 3)) (d10 : decode cc (pc + 10) = .ok (.athrow, 1))
    (htb : ∀ x ∈ c.exceptionTable.toList, False) (hRf : names.length + 3 < R.frames) (hRl : (st.map fun v => v.category).sum + (13 * (names.length + 1) + 43) ≤ R.locals) (hRc : k + 1 ≤ R.cells) (hRs : n + 6 ≤ R.slots) (is : List Nat) (hs : is.map (fun i => ws[i]?) = wc.map some) (hn : va_nd is = true) (hc : k + 1 ≤ mc) (hm : n + 6 ≤ ms) :
    J p l e R s m args below meth c (vx_MQ below (va_Qi (fun (_ : Int32) (_ : Unit) => False) (fun _ _ => True) A) (vx_X (fun _ : Unit => True) (fun E9 _ t => E9 = E ∧ va_P G vwCl wc t.heap ∧ va_D A wc) A) args s mc ms A) G A nL ws k n pc lo st := by
  intro H locs ls hP hD hS hl
  obtain ⟨sa, hsa⟩ := C.2.2.2.2.2.2.2.1 _ htx
  rw [← ho] at hsa
  refine vx_throwSW C.1.1 C.1.2.1 hl9 (names := names) (sa := sa) (text := text) (is := is9) C.1.2.2.2.1 hcls hnames (C.1.2.2.2.2 _ hk) (C.1.2.2.2.2 _ hini) hsa (fz_hat C.1.2.2.2.2 hg1 hg2 (C.2.2.2.2.2.2.2.2.2.2.2.1 E hE)) hgood C.2.2.2.2.2.2.1.1 C.2.2.2.2.2.2.1.2 hS (by rw [C.1.2.2.1]; exact hl.1) d0 d3 d4 d7 d10 (fun x hx => (htb x hx).elim) hRf hRl hRc hRs C.2.2.1 (fun t hvm hz hq => ⟨(), trivial, ⟨rfl, ?_, hD.sub is hn hs⟩, Nat.le_trans hS.1 hz, fun q h1 h2 => (hq q (Nat.lt_of_lt_of_le h1 hS.1)).trans (hS.2.1 q h1 h2)⟩) hS.2.2 hc hm
  exact (fz_at is hs hP).kept (fun i q hq9 => hq q.1 ((fz_at is hs hP i q hq9).lt))
end FZE
/-- a method with a table of its own that answers a number in every case -/
theorem Kw_of {l : Launch} {y : MethodName} {wy ws' : List Cond} {G : va_G} {cy : Nat → ClassId} {As : List Value} {wc : va_W} {S : Type} {po : Int32 → S → Prop} {w1 : S → va_W} {fr mc ms lc nL : Nat} {cc : ByteArray} {ret : Option FieldType} {hh : List (Nat × Nat × Nat × Nat)} (hy : plainName y.cls = true) (hw : wy = Cond.codeWith y cc nL ret hh :: ws') (hl : (lg_sl As).length ≤ nL)
    (body : ∀ (p : Program) (e : Env) (s : State) (m : MethodId) (args : Array Value) (below : List Frame) (meth : Method) (c : Code) (A : Nat → Prop), fz_C p c s m args nL cc wy y.cls meth ret G cy A → c.exceptionTable.toList = tableOf hh → J p l e (fz_rm fr mc ms lc) s m args below meth c (MQ below (va_Qi po (fz_B G w1 A) A) args s mc ms A) G A nL wc 0 0 0 (lv_args 0 As) []) : Ki l y wy G cy As wc po w1 fr mc ms lc := by
  intro sz
  refine MetFree.of_bodyS (code := cc) (maxLocals := nL) (ret := ret) hy ?_ ?_
  · intro args s m h hn
    obtain ⟨m9, meth, c, hn9, h1, h2, h3, h4, -, h5, h6, -⟩ := Cond.codeWith_spec (atoms_spec (ws := wy) h _ (by rw [hw]; exact List.mem_cons_self))
    cases hn.symm.trans hn9
    exact ⟨meth, c, h1, h2, h3, h4, h5, h6⟩
  · intro p e s m args below meth c s₁ B hml0 hv _
    have hh0 : s₁.heap = s.heap := by rw [B.state]; rfl
    have hml : c.maxLocals = nL := hml0
    have hcw : (Cond.codeWith y cc nL ret hh).before args s = true := atoms_spec (ws := wy) B.pre _ (by rw [hw]; exact List.mem_cons_self)
    obtain ⟨rfl, rfl, hP, hK, hD, hST⟩ := id hv
    have hC : fz_C p c s m As.toArray nL cc wy y.cls meth ret G cy (va_A wc s.heap.size) := ⟨⟨B.exec, B.bytes, hml, findClass_of_methodNamed B.named, atoms_spec (ws := wy) B.pre⟩, B.returns, B.notSynchronized, hK, fun _ h => Or.inr h, hST⟩
    obtain ⟨t, a1, o, b1, b2, b3⟩ := fz_W0 hl hP hD.self (body p e s m _ below meth c _ hC (vx_table (x := y) B hcw)) s₁ hh0 (Stand.of_body B)
    exact ⟨t, o, a1, b1, b2, b3⟩
end
section
/-! Words as lists of 0 .. 5: what cancels, what conjugates: no machine in this part. -/
def fv (a : Nat) : Nat := a ^^^ 1
theorem fv_fv (a : Nat) : fv (fv a) = a := by unfold fv; rw [Nat.xor_assoc, Nat.xor_self, Nat.xor_zero]
theorem fv_ne (a : Nat) : a ≠ fv a := by
  intro h
  have h1 : a ^^^ a = a ^^^ (a ^^^ 1) := congrArg (fun z => a ^^^ z) h
  rw [← Nat.xor_assoc, Nat.xor_self, Nat.zero_xor] at h1
  cases h1
theorem fv_inj {a b : Nat} (h : fv a = fv b) : a = b := by rw [← fv_fv a, h, fv_fv]
theorem fv_lt : ∀ a, a < 6 → fv a < 6 := by decide +kernel
theorem fv_eq {a b : Nat} : a = fv b ↔ fv a = b := ⟨fun h => by rw [h, fv_fv], fun h => by rw [← h, fv_fv]⟩
/-- nothing cancels -/
def Rd : List Nat → Prop
  | [] => True
  | [_] => True
  | a :: b :: t => a ≠ fv b ∧ Rd (b :: t)
theorem Rd_app : ∀ (xs ys : List Nat), Rd (xs ++ ys) ↔ Rd xs ∧ Rd ys ∧ ∀ a b, xs.getLast? = some a → ys.head? = some b → a ≠ fv b
  | [], ys => by simp [Rd]
  | [x], [] => by simp [Rd]
  | [x], y :: t => by
    simp only [List.cons_append, List.nil_append, Rd, List.getLast?_singleton, List.head?_cons, Option.some.injEq]
    constructor
    · rintro ⟨h1, h2⟩
      exact ⟨trivial, h2, fun a b ha hb => by rw [← ha, ← hb]; exact h1⟩
    · rintro ⟨-, h2, h3⟩
      exact ⟨h3 x y rfl rfl, h2⟩
  | x :: x' :: t, ys => by
    have ih := Rd_app (x' :: t) ys
    simp only [List.cons_append] at ih ⊢
    simp only [Rd, List.getLast?_cons_cons]
    rw [ih, and_assoc]
theorem Rd_tail {x : Nat} : ∀ {t : List Nat}, Rd (x :: t) → Rd t
  | [], _ => trivial
  | _ :: _, h => h.2
theorem fm_snoc : ∀ l : List Nat, l = [] ∨ ∃ t a, l = t ++ [a]
  | [] => Or.inl rfl
  | x :: l => by
    rcases fm_snoc l with h | ⟨t, a, h⟩
    · exact Or.inr ⟨[], x, by rw [h]; rfl⟩
    · exact Or.inr ⟨x :: t, a, by rw [h]; rfl⟩
def iv (xs : List Nat) : List Nat := (xs.map fv).reverse
theorem iv_app (xs ys : List Nat) : iv (xs ++ ys) = iv ys ++ iv xs := by simp [iv]
theorem iv_iv (xs : List Nat) : iv (iv xs) = xs := by
  have h : (fv ∘ fv) = id := funext fv_fv
  simp [iv, h]
theorem iv_len (xs : List Nat) : (iv xs).length = xs.length := by simp [iv]
theorem iv_cons (x : Nat) (t : List Nat) : iv (x :: t) = iv t ++ [fv x] := by simp [iv]
theorem iv_nil : iv [] = [] := rfl
theorem iv_last (xs : List Nat) : (iv xs).getLast? = xs.head?.map fv := by
  cases xs with
  | nil => rfl
  | cons x t => rw [iv_cons]; simp
theorem iv_head (xs : List Nat) : (iv xs).head? = xs.getLast?.map fv := by
  rcases fm_snoc xs with h | ⟨t, a, h⟩
  · subst h; rfl
  · subst h; rw [iv_app]; simp [iv]
theorem Rd_iv : ∀ {xs : List Nat}, Rd xs → Rd (iv xs)
  | [], _ => trivial
  | x :: t, h => by
    rw [iv_cons]
    refine (Rd_app _ _).mpr ⟨Rd_iv (Rd_tail h), trivial, fun a b ha hb => ?_⟩
    cases t with
    | nil => cases ha
    | cons y t =>
      rw [iv_last] at ha
      cases ha
      cases hb
      intro z
      rw [fv_fv] at z
      exact h.1 z.symm
/-- a letter added behind -/
def psh (xs : List Nat) (a : Nat) : List Nat := if xs.getLast? = some (fv a) then xs.dropLast else xs ++ [a]
theorem psh_t {t : List Nat} {a b : Nat} (h : b = fv a) : psh (t ++ [b]) a = t := by unfold psh; rw [h]; simp
theorem psh_f {xs : List Nat} {a : Nat} (h : xs.getLast? ≠ some (fv a)) : psh xs a = xs ++ [a] := by unfold psh; rw [if_neg h]
theorem psh_f' {t : List Nat} {a b : Nat} (h : b ≠ fv a) : psh (t ++ [b]) a = t ++ [b] ++ [a] := psh_f (by simp; exact h)
theorem psh_0 (a : Nat) : psh [] a = [a] := psh_f (by simp)
theorem Rd_init {t : List Nat} {a : Nat} (h : Rd (t ++ [a])) : Rd t := ((Rd_app _ _).mp h).1
theorem psh_Rd {xs : List Nat} (a : Nat) (h : Rd xs) : Rd (psh xs a) := by
  rcases fm_snoc xs with e | ⟨t, b, e⟩
  · subst e; rw [psh_0]; trivial
  · subst e
    by_cases hb : b = fv a
    · rw [psh_t hb]; exact Rd_init h
    · rw [psh_f' hb]
      exact (Rd_app _ _).mpr ⟨h, trivial, fun x y hx hy => by simp at hx hy; rw [← hx, ← hy]; exact hb⟩
theorem psh_psh {xs : List Nat} (a : Nat) (h : Rd xs) : psh (psh xs a) (fv a) = xs := by
  rcases fm_snoc xs with e | ⟨t, b, e⟩
  · subst e
    rw [psh_0]
    exact psh_t (t := []) (fv_fv a).symm
  · subst e
    by_cases hb : b = fv a
    · rw [psh_t hb, hb]
      refine psh_f (fun z => ?_)
      exact ((Rd_app _ _).mp h).2.2 _ b z rfl (by rw [hb])
    · rw [psh_f' hb]
      exact psh_t (fv_fv a).symm
theorem psh_psh' {xs : List Nat} (a : Nat) (h : Rd xs) : psh (psh xs (fv a)) a = xs := by
  have h1 := psh_psh (fv a) h
  rwa [fv_fv] at h1
/-- letters added behind, one after the other -/
def act (r ys : List Nat) : List Nat := ys.foldl psh r
def red (ys : List Nat) : List Nat := act [] ys
theorem act_nil (r : List Nat) : act r [] = r := rfl
theorem act_cons (r : List Nat) (y : Nat) (t : List Nat) : act r (y :: t) = act (psh r y) t := rfl
theorem act_app (r xs ys : List Nat) : act r (xs ++ ys) = act (act r xs) ys := by simp [act]
theorem act_Rd : ∀ (ys : List Nat) {r : List Nat}, Rd r → Rd (act r ys)
  | [], _, h => h
  | y :: t, _, h => act_Rd t (psh_Rd y h)
theorem red_Rd (ys : List Nat) : Rd (red ys) := act_Rd ys trivial
theorem act_id : ∀ (ys r : List Nat), Rd (r ++ ys) → act r ys = r ++ ys
  | [], r, _ => by simp [act_nil]
  | y :: t, r, h => by
    have h1 := (Rd_app _ _).mp h
    rw [act_cons, psh_f (fun z => h1.2.2 _ y z rfl rfl), act_id t (r ++ [y]) (by simpa using h)]
    simp
theorem red_id {xs : List Nat} (h : Rd xs) : red xs = xs := act_id xs [] h
theorem act_iv : ∀ (ys : List Nat) {r : List Nat}, Rd r → act (act r ys) (iv ys) = r
  | [], _, _ => rfl
  | y :: t, r, h => by
    rw [act_cons, iv_cons, act_app, act_iv t (psh_Rd y h)]
    exact psh_psh y h
theorem act_iv' (ys : List Nat) {r : List Nat} (h : Rd r) : act (act r (iv ys)) ys = r := by
  have h1 := act_iv (iv ys) h
  rwa [iv_iv] at h1
theorem act_psh {r xs : List Nat} (a : Nat) (hr : Rd r) (hx : Rd xs) : act r (psh xs a) = psh (act r xs) a := by
  rcases fm_snoc xs with e | ⟨t, b, e⟩
  · subst e; rw [psh_0]; rfl
  · subst e
    by_cases hb : b = fv a
    · rw [psh_t hb, act_app, hb]
      exact (psh_psh' a (act_Rd t hr)).symm
    · rw [psh_f' hb, act_app]
      rfl
theorem act_act {r : List Nat} (hr : Rd r) : ∀ (ys : List Nat) {xs : List Nat}, Rd xs → act r (act xs ys) = act (act r xs) ys
  | [], _, _ => rfl
  | y :: t, xs, hx => by rw [act_cons, act_act hr t (psh_Rd y hx), act_psh y hr hx]; rfl
theorem act_red {r : List Nat} (hr : Rd r) (ys : List Nat) : act r (red ys) = act r ys := act_act hr ys (xs := []) trivial
theorem red_red (ys : List Nat) : red (red ys) = red ys := red_id (red_Rd ys)
theorem act_eq {r : List Nat} (hr : Rd r) (ys : List Nat) : act r ys = red (r ++ ys) := by
  unfold red
  rw [act_app, show act [] r = r from red_id hr]
/-- they do the same wherever they are added -/
def Eqv (xs ys : List Nat) : Prop := ∀ r, Rd r → act r xs = act r ys
theorem eqv_rf (xs : List Nat) : Eqv xs xs := fun _ _ => rfl
theorem eqv_sm {xs ys : List Nat} (h : Eqv xs ys) : Eqv ys xs := fun r hr => (h r hr).symm
theorem eqv_tr {xs ys zs : List Nat} (h : Eqv xs ys) (h2 : Eqv ys zs) : Eqv xs zs := fun r hr => (h r hr).trans (h2 r hr)
theorem eqv_ap {xs ys us vs : List Nat} (h : Eqv xs ys) (h2 : Eqv us vs) : Eqv (xs ++ us) (ys ++ vs) := fun r hr => by
  rw [act_app, act_app, h r hr]
  exact h2 _ (act_Rd ys hr)
theorem eqv_rd {xs ys : List Nat} (h : Eqv xs ys) : red xs = red ys := h [] trivial
theorem eqv_red (xs : List Nat) : Eqv (red xs) xs := fun _ hr => act_red hr xs
theorem eqv_of {xs ys : List Nat} (h : red xs = red ys) : Eqv xs ys := fun r hr => by rw [← act_red hr xs, h, act_red hr ys]
theorem eqv_l (xs : List Nat) : Eqv (xs ++ iv xs) [] := fun r hr => by rw [act_app]; exact act_iv xs hr
theorem eqv_r (xs : List Nat) : Eqv (iv xs ++ xs) [] := fun r hr => by rw [act_app]; exact act_iv' xs hr
theorem eqv_iv {xs ys : List Nat} (h : Eqv xs ys) : Eqv (iv xs) (iv ys) := fun r hr => by
  have h1 : act (act r (iv xs)) ys = r := by rw [← h _ (act_Rd _ hr)]; exact act_iv' xs hr
  have h2 := act_iv ys (r := act r (iv xs)) (act_Rd _ hr)
  rw [h1] at h2
  exact h2.symm
/-- x c x' in the middle of others: one side taken off -/
theorem eqv_mid {xs ys us vs : List Nat} (h : Eqv us vs) : Eqv (xs ++ us ++ ys) (xs ++ vs ++ ys) := eqv_ap (eqv_ap (eqv_rf xs) h) (eqv_rf ys)
theorem red_app (xs ys : List Nat) : red (red xs ++ ys) = red (xs ++ ys) := eqv_rd (eqv_ap (eqv_red xs) (eqv_rf ys))
theorem red_app' (xs ys : List Nat) : red (xs ++ red ys) = red (xs ++ ys) := eqv_rd (eqv_ap (eqv_rf xs) (eqv_red ys))
/-! pieces of an endless row -/
def seg (f : Nat → Nat) (a n : Nat) : List Nat := (List.range n).map (fun i => f (a + i))
theorem seg_len (f : Nat → Nat) (a n : Nat) : (seg f a n).length = n := by simp [seg]
theorem seg_0 (f : Nat → Nat) (a : Nat) : seg f a 0 = [] := rfl
theorem seg_at {f : Nat → Nat} {a n i : Nat} (h : i < n) : (seg f a n)[i]? = some (f (a + i)) := by simp [seg, h]
theorem seg_app (f : Nat → Nat) (a n k : Nat) : seg f a (n + k) = seg f a n ++ seg f (a + n) k := by
  simp [seg, List.range_add, Function.comp_def, Nat.add_assoc]
theorem seg_cons (f : Nat → Nat) (a n : Nat) : seg f a (n + 1) = f a :: seg f (a + 1) n := by
  rw [Nat.add_comm n 1, seg_app]; rfl
theorem seg_snoc (f : Nat → Nat) (a n : Nat) : seg f a (n + 1) = seg f a n ++ [f (a + n)] := by rw [seg_app]; rfl
theorem seg_cong {f g : Nat → Nat} {a b n : Nat} (h : ∀ i, i < n → f (a + i) = g (b + i)) : seg f a n = seg g b n := by
  unfold seg
  exact List.map_congr_left fun i hi => h i (List.mem_range.mp hi)
theorem seg_last {f : Nat → Nat} {a n : Nat} : (seg f a (n + 1)).getLast? = some (f (a + n)) := by rw [seg_snoc]; simp
theorem seg_head {f : Nat → Nat} {a n : Nat} : (seg f a (n + 1)).head? = some (f a) := by rw [seg_cons]; rfl
/-- a row that cancels nowhere, going round -/
def Rnd (f : Nat → Nat) : Prop := ∀ i, f i ≠ fv (f (i + 1))
theorem seg_Rd {f : Nat → Nat} (h : Rnd f) : ∀ (n a : Nat), Rd (seg f a n)
  | 0, _ => trivial
  | 1, _ => trivial
  | n + 2, a => by
    rw [seg_cons, seg_cons]
    refine ⟨h a, ?_⟩
    have h1 := seg_Rd h (n + 1) (a + 1)
    rwa [seg_cons] at h1
def Per (f : Nat → Nat) (n : Nat) : Prop := ∀ i, f (i + n) = f i
theorem per_mul {f : Nat → Nat} {n : Nat} (h : Per f n) : ∀ k, Per f (n * k)
  | 0 => fun i => rfl
  | k + 1 => fun i => by rw [Nat.mul_succ, ← Nat.add_assoc, h, per_mul h k i]
theorem per_sub {f : Nat → Nat} {a b : Nat} (ha : Per f a) (hb : Per f b) (h : a ≤ b) : Per f (b - a) := fun i => by
  rw [← ha (i + (b - a)), Nat.add_assoc, Nat.sub_add_cancel h, hb]
theorem per_mod {f : Nat → Nat} {a b : Nat} (ha : Per f a) (hb : Per f b) : Per f (b % a) := by
  have h1 : b % a = b - a * (b / a) := by have := Nat.div_add_mod b a; omega
  rw [h1]
  exact per_sub (per_mul ha _) hb (Nat.mul_div_le b a)
theorem per_gcd {f : Nat → Nat} : ∀ (a b : Nat), Per f a → Per f b → Per f (Nat.gcd a b) := by
  intro a b
  refine Nat.gcd.induction (P := fun a b => Per f a → Per f b → Per f (Nat.gcd a b)) a b ?_ ?_
  · intro n _ hn
    rwa [Nat.gcd_zero_left]
  · intro m n _ ih hm hn
    rw [Nat.gcd_rec]
    exact ih (per_mod hm hn) hm
theorem seg_shift {f : Nat → Nat} {p : Nat} (h : Per f p) (a n : Nat) : seg f (a + p) n = seg f a n := seg_cong fun i _ => by rw [show a + p + i = a + i + p by omega, h]
/-- forward: what stands behind y falls into the row turned on -/
theorem cj_fwd {f : Nat → Nat} {n : Nat} (hR : Rnd f) (hp : Per f (n + 1)) : ∀ (k : Nat) (y : List Nat) (a : Nat), y.length = k → Rd y → y.getLast? ≠ some (f (a + n)) →
    ∃ m v, y = v ++ iv (seg f a m) ∧ Rd (v ++ seg f (a + m) (n + 1) ++ iv v)
  | 0, y, a, hy, _, _ => by
    have h0 : y = [] := List.eq_nil_of_length_eq_zero hy
    subst h0
    refine ⟨0, [], rfl, ?_⟩
    simp only [List.nil_append, iv_nil, List.append_nil]
    exact seg_Rd hR _ _
  | k + 1, y, a, hy, hr, hl => by
    rcases fm_snoc y with h | ⟨t, x, h⟩
    · subst h; cases hy
    · subst h
      have hxl : x ≠ f (a + n) := fun z => hl (by rw [z]; simp)
      by_cases hx : x = fv (f a)
      · have ht : t.getLast? ≠ some (f (a + 1 + n)) := by
          intro z
          refine ((Rd_app _ _).mp hr).2.2 _ x z rfl ?_
          rw [hx, fv_fv, show a + 1 + n = a + (n + 1) by omega, hp]
        obtain ⟨m, v, e1, e2⟩ := cj_fwd hR hp k t (a + 1) (by simpa using hy) (Rd_init hr) ht
        refine ⟨m + 1, v, ?_, by rw [show a + (m + 1) = a + 1 + m by omega]; exact e2⟩
        rw [e1, seg_cons, iv_cons, hx]
        simp
      · refine ⟨0, t ++ [x], by simp [seg_0, iv], ?_⟩
        refine (Rd_app _ _).mpr ⟨(Rd_app _ _).mpr ⟨hr, seg_Rd hR _ _, fun p q hp1 hq => ?_⟩, Rd_iv hr, fun p q hp1 hq => ?_⟩
        · rw [seg_head] at hq
          simp at hp1 hq
          rw [← hp1, ← hq]
          exact hx
        · rw [List.getLast?_append, seg_last] at hp1
          rw [iv_head] at hq
          simp at hp1 hq
          rw [← hp1, ← hq, fv_fv]
          exact fun z => hxl z.symm
/-- backward -/
theorem cj_bwd {f : Nat → Nat} {n : Nat} (hR : Rnd f) (hp : Per f (n + 1)) : ∀ (k : Nat) (y : List Nat) (a : Nat), y.length = k → k ≤ a → Rd y → y.getLast? ≠ some (fv (f a)) →
    ∃ m v, m ≤ a ∧ y = v ++ seg f (a - m) m ∧ Rd (v ++ seg f (a - m) (n + 1) ++ iv v)
  | 0, y, a, hy, _, _, _ => by
    have h0 : y = [] := List.eq_nil_of_length_eq_zero hy
    subst h0
    refine ⟨0, [], Nat.zero_le _, rfl, ?_⟩
    simp only [List.nil_append, iv_nil, List.append_nil]
    exact seg_Rd hR _ _
  | k + 1, y, a, hy, hk, hr, hl => by
    rcases fm_snoc y with h | ⟨t, x, h⟩
    · subst h; cases hy
    · subst h
      obtain ⟨b, rfl⟩ : ∃ b, a = b + 1 := ⟨a - 1, by omega⟩
      have hxl : x ≠ fv (f (b + 1)) := fun z => hl (by rw [z]; simp)
      by_cases hx : x = f b
      · have ht : t.getLast? ≠ some (fv (f b)) := by
          intro z
          exact ((Rd_app _ _).mp hr).2.2 _ x z rfl (by rw [hx])
        obtain ⟨m, v, e0, e1, e2⟩ := cj_bwd hR hp k t b (by simpa using hy) (by omega) (Rd_init hr) ht
        refine ⟨m + 1, v, by omega, ?_, by rw [show b + 1 - (m + 1) = b - m by omega]; exact e2⟩
        rw [show b + 1 - (m + 1) = b - m by omega, e1, seg_snoc, show b - m + m = b by omega, hx]
        simp
      · refine ⟨0, t ++ [x], Nat.zero_le _, by simp [seg_0], ?_⟩
        refine (Rd_app _ _).mpr ⟨(Rd_app _ _).mpr ⟨hr, seg_Rd hR _ _, fun p q hp1 hq => ?_⟩, Rd_iv hr, fun p q hp1 hq => ?_⟩
        · rw [Nat.sub_zero, seg_head] at hq
          simp at hp1 hq
          rw [← hp1, ← hq]
          exact hxl
        · rw [List.getLast?_append, Nat.sub_zero, seg_last] at hp1
          rw [iv_head] at hq
          simp at hp1 hq
          rw [← hp1, ← hq, fv_fv, show b + 1 + n = b + (n + 1) by omega, hp]
          exact fun z => hx z.symm
theorem psh_len (xs : List Nat) (a : Nat) : (psh xs a).length ≤ xs.length + 1 := by
  rcases fm_snoc xs with e | ⟨t, b, e⟩
  · subst e; rw [psh_0]; exact Nat.le_refl _
  · subst e
    by_cases hb : b = fv a
    · rw [psh_t hb]; simp; omega
    · rw [psh_f' hb]; simp
theorem act_len : ∀ (ys r : List Nat), (act r ys).length ≤ r.length + ys.length
  | [], r => Nat.le_refl _
  | y :: t, r => by
    rw [act_cons]
    have h1 := act_len t (psh r y)
    have h2 := psh_len r y
    simp only [List.length_cons]
    omega
theorem red_len (ys : List Nat) : (red ys).length ≤ ys.length := by
  have h := act_len ys []
  simpa [red] using h
/-- what is conjugated, by its parts -/
def cj_w (f : Nat → Nat) (n : Nat) (u : List Nat) (s : Nat) : List Nat := u ++ seg f s (n + 1) ++ iv u
theorem cj_turn (f : Nat → Nat) {n : Nat} (hp : Per f (n + 1)) (a m : Nat) : seg f a (n + 1) ++ seg f a m = seg f a m ++ seg f (a + m) (n + 1) := by
  have h := seg_shift hp a m
  have h2 := seg_app f a (n + 1) m
  rw [h] at h2
  rw [← h2, Nat.add_comm (n + 1) m, seg_app]
theorem cj_eqv {x y c d : List Nat} (h : c ++ y = y ++ d) (hx : x = iv y) : Eqv (x ++ c ++ y) d := by
  rw [List.append_assoc, h, ← List.append_assoc, hx]
  exact eqv_tr (eqv_ap (eqv_r y) (eqv_rf d)) (eqv_rf _)
theorem cj_eqv' {x y c d : List Nat} (h : y ++ c = d ++ y) (hx : x = iv y) : Eqv (y ++ c ++ x) d := by
  rw [h, List.append_assoc, hx]
  have h1 := eqv_ap (eqv_rf d) (eqv_l y)
  rwa [List.append_nil] at h1
theorem cj_uu {f : Nat → Nat} {n : Nat} {u x : List Nat} : Eqv (x ++ iv u ++ cj_w f n u 0 ++ iv (x ++ iv u)) (x ++ seg f 0 (n + 1) ++ iv x) := by
  have h1 : x ++ iv u ++ cj_w f n u 0 ++ iv (x ++ iv u) = x ++ (iv u ++ u) ++ seg f 0 (n + 1) ++ (iv u ++ u) ++ iv x := by
    rw [cj_w, iv_app, iv_iv]; simp
  rw [h1]
  have h2 : Eqv (x ++ (iv u ++ u) ++ seg f 0 (n + 1) ++ (iv u ++ u) ++ iv x) (x ++ [] ++ seg f 0 (n + 1) ++ [] ++ iv x) := eqv_ap (eqv_ap (eqv_ap (eqv_ap (eqv_rf x) (eqv_r u)) (eqv_rf _)) (eqv_r u)) (eqv_rf _)
  simpa using h2
/-- z w z⁻¹, by its parts -/
theorem cj_form {f : Nat → Nat} {n : Nat} (hR : Rnd f) (hp : Per f (n + 1)) {u z : List Nat} (hz : Rd z) : ∃ v s m, red (z ++ cj_w f n u 0 ++ iv z) = cj_w f n v s ∧ Rd (cj_w f n v s) ∧
    ((s = m ∧ red (z ++ u) = v ++ iv (seg f 0 m)) ∨ ∃ k, m ≤ (n + 1) * (k + 1) ∧ s = (n + 1) * (k + 1) - m ∧ red (z ++ u) = v ++ seg f s m) := by
  have hy := red_Rd (z ++ u)
  have e0 : Eqv (z ++ cj_w f n u 0 ++ iv z) (red (z ++ u) ++ seg f 0 (n + 1) ++ iv (red (z ++ u))) := by
    have h1 : z ++ cj_w f n u 0 ++ iv z = (z ++ u) ++ seg f 0 (n + 1) ++ iv (z ++ u) := by rw [cj_w, iv_app]; simp
    rw [h1]
    exact eqv_ap (eqv_ap (eqv_sm (eqv_red _)) (eqv_rf _)) (eqv_iv (eqv_sm (eqv_red _)))
  generalize red (z ++ u) = y at hy e0 ⊢
  by_cases hl : y.getLast? = some (f (0 + n))
  · have hl2 : y.getLast? ≠ some (fv (f ((n + 1) * (y.length + 1)))) := by
      intro q
      rw [hl] at q
      have q1 := Option.some.inj q
      rw [← Nat.zero_add ((n + 1) * (y.length + 1)), per_mul hp, Nat.zero_add] at q1
      refine hR n ?_
      rw [q1, ← hp 0, Nat.zero_add]
    have hk : y.length ≤ (n + 1) * (y.length + 1) := by
      have := Nat.le_mul_of_pos_left (y.length + 1) (show 0 < n + 1 by omega)
      omega
    obtain ⟨m, v, e1, e2, e3⟩ := cj_bwd hR hp y.length y ((n + 1) * (y.length + 1)) rfl hk hy hl2
    refine ⟨v, (n + 1) * (y.length + 1) - m, m, ?_, e3, Or.inr ⟨y.length, e1, rfl, e2⟩⟩
    generalize hA : (n + 1) * (y.length + 1) = a at e1 e2 e3 ⊢
    have hc : seg f 0 (n + 1) = seg f a (n + 1) := by
      have h3 := seg_shift (f := f) (per_mul hp (y.length + 1)) 0 (n + 1)
      rw [hA, Nat.zero_add] at h3
      exact h3.symm
    have e4 : Eqv (y ++ seg f 0 (n + 1) ++ iv y) (cj_w f n v (a - m)) := by
      rw [e2, iv_app, hc]
      have h4 : v ++ seg f (a - m) m ++ seg f a (n + 1) ++ (iv (seg f (a - m) m) ++ iv v) = v ++ (seg f (a - m) m ++ seg f a (n + 1) ++ iv (seg f (a - m) m)) ++ iv v := by simp
      rw [h4]
      refine eqv_mid (cj_eqv' ?_ rfl)
      rw [cj_turn f hp (a - m) m, show a - m + m = a by omega]
    rw [eqv_rd (eqv_tr e0 e4)]; exact red_id e3
  · obtain ⟨m, v, e2, e3⟩ := cj_fwd hR hp y.length y 0 rfl hy hl
    rw [Nat.zero_add] at e3
    refine ⟨v, m, m, ?_, e3, Or.inl ⟨rfl, e2⟩⟩
    have e4 : Eqv (y ++ seg f 0 (n + 1) ++ iv y) (cj_w f n v m) := by
      rw [e2, iv_app, iv_iv]
      have h4 : v ++ iv (seg f 0 m) ++ seg f 0 (n + 1) ++ (seg f 0 m ++ iv v) = v ++ (iv (seg f 0 m) ++ seg f 0 (n + 1) ++ seg f 0 m) ++ iv v := by simp
      rw [h4]
      refine eqv_mid (cj_eqv ?_ rfl)
      have h5 := cj_turn f hp 0 m
      rwa [Nat.zero_add] at h5
    rw [eqv_rd (eqv_tr e0 e4)]; exact red_id e3
theorem seg_all {f : Nat → Nat} {n s t : Nat} (hp : Per f (n + 1)) (h : seg f t (n + 1) = seg f s (n + 1)) (i : Nat) : f (t + i) = f (s + i) := by
  have h1 : ∀ j, j < n + 1 → f (t + j) = f (s + j) := fun j hj => by
    have h2 := congrArg (fun l => l[j]?) h
    simp only [seg_at hj, Option.some.injEq] at h2
    exact h2
  have h3 := h1 (i % (n + 1)) (Nat.mod_lt _ (Nat.succ_pos n))
  have h4 := Nat.mod_add_div i (n + 1)
  have h5 : ∀ r, f (r + i) = f (r + i % (n + 1)) := fun r => by
    rw [← per_mul hp (i / (n + 1)) (r + i % (n + 1))]
    congr 1
    omega
  rw [h5 t, h5 s, h3]
theorem seg_mod {f : Nat → Nat} {n : Nat} (hp : Per f (n + 1)) (s k : Nat) : seg f (s % (n + 1)) k = seg f s k := by
  have h4 := Nat.mod_add_div s (n + 1)
  have h5 := seg_shift (f := f) (per_mul hp (s / (n + 1))) (s % (n + 1)) k
  rw [h4] at h5
  exact h5.symm
/-- the first turn -/
def Tn (f : Nat → Nat) (n s t : Nat) : Prop := t < n + 1 ∧ seg f t (n + 1) = seg f s (n + 1) ∧ ∀ q, q < t → seg f q (n + 1) ≠ seg f s (n + 1)
/-- the shortest part that the row is made of -/
def Pd (f : Nat → Nat) (n p : Nat) : Prop := 1 ≤ p ∧ p ∣ n + 1 ∧ Per f p ∧ ∀ q, 1 ≤ q → q < p → q ∣ n + 1 → ¬ Per f q
theorem Tn_ex {f : Nat → Nat} {n : Nat} (hp : Per f (n + 1)) (s : Nat) : ∃ t, Tn f n s t := by
  obtain ⟨t, h1, h2⟩ := pk_least (fun t => t < n + 1 ∧ seg f t (n + 1) = seg f s (n + 1)) ⟨s % (n + 1), Nat.mod_lt _ (Nat.succ_pos n), seg_mod hp s _⟩
  exact ⟨t, h1.1, h1.2, fun q hq z => h2 q hq ⟨by omega, z⟩⟩
theorem Pd_ex {f : Nat → Nat} {n : Nat} (hp : Per f (n + 1)) : ∃ p, Pd f n p := by
  obtain ⟨p, h1, h2⟩ := pk_least (fun p => 1 ≤ p ∧ p ∣ n + 1 ∧ Per f p) ⟨n + 1, by omega, Nat.dvd_refl _, hp⟩
  exact ⟨p, h1.1, h1.2.1, h1.2.2, fun q h3 h4 h5 h6 => h2 q h4 ⟨h3, h5, h6⟩⟩
theorem Tn_lt {f : Nat → Nat} {n s t p : Nat} (ht : Tn f n s t) (hd : Pd f n p) : t < p := by
  rcases Nat.lt_or_ge t p with h | h
  · exact h
  · refine absurd ?_ (ht.2.2 (t - p) (by have := hd.1; omega))
    have h1 := seg_shift hd.2.2.1 (t - p) (n + 1)
    rw [Nat.sub_add_cancel h] at h1
    rw [← h1]; exact ht.2.1
/-- both ways do -/
theorem cj_one {f : Nat → Nat} {n s t : Nat} (hp : Per f (n + 1)) {u v : List Nat} (hM : Rd (cj_w f n v s)) (ht : Tn f n s t) {K : List Nat} (hK : Eqv K (v ++ iv (seg f 0 t) ++ iv u)) : red (K ++ cj_w f n u 0 ++ iv K) = cj_w f n v s := by
  have h1 := eqv_rd (eqv_ap (eqv_ap hK (eqv_rf (cj_w f n u 0))) (eqv_iv hK))
  rw [h1, eqv_rd cj_uu, iv_app, iv_iv, ← red_id hM, cj_w, ← ht.2.1]
  refine eqv_rd ?_
  have h4 : v ++ iv (seg f 0 t) ++ seg f 0 (n + 1) ++ (seg f 0 t ++ iv v) = v ++ (iv (seg f 0 t) ++ seg f 0 (n + 1) ++ seg f 0 t) ++ iv v := by simp
  rw [h4]
  refine eqv_mid (cj_eqv ?_ rfl)
  have h5 := cj_turn f hp 0 t
  rwa [Nat.zero_add] at h5
theorem cj_two {f : Nat → Nat} {n s t p : Nat} (hp : Per f (n + 1)) {u v : List Nat} (hM : Rd (cj_w f n v s)) (ht : Tn f n s t) (hd : Pd f n p) {K : List Nat} (hK : Eqv K (v ++ seg f t (p - t) ++ iv u)) : red (K ++ cj_w f n u 0 ++ iv K) = cj_w f n v s := by
  have h0 := Tn_lt ht hd
  have h1 := eqv_rd (eqv_ap (eqv_ap hK (eqv_rf (cj_w f n u 0))) (eqv_iv hK))
  rw [h1, eqv_rd cj_uu, iv_app, ← red_id hM, cj_w, ← ht.2.1]
  refine eqv_rd ?_
  have h4 : v ++ seg f t (p - t) ++ seg f 0 (n + 1) ++ (iv (seg f t (p - t)) ++ iv v) = v ++ (seg f t (p - t) ++ seg f 0 (n + 1) ++ iv (seg f t (p - t))) ++ iv v := by simp
  rw [h4]
  refine eqv_mid (cj_eqv' ?_ rfl)
  have h5 := seg_shift hd.2.2.1 0 (n + 1)
  rw [Nat.zero_add] at h5
  rw [cj_turn f hp t (p - t), show t + (p - t) = p by omega, h5]
/-- no way is shorter; one as short is one of the two -/
theorem cj_best {f : Nat → Nat} {n : Nat} (hR : Rnd f) (hp : Per f (n + 1)) {u z : List Nat} (hu : Rd (cj_w f n u 0)) (hz : Rd z) : ∃ v s, red (z ++ cj_w f n u 0 ++ iv z) = cj_w f n v s ∧ Rd (cj_w f n v s) ∧ ∀ t p, Tn f n s t → Pd f n p →
    z = red (v ++ iv (seg f 0 t) ++ iv u) ∨ z = red (v ++ seg f t (p - t) ++ iv u) ∨ (red (v ++ iv (seg f 0 t) ++ iv u)).length < z.length ∨ (red (v ++ seg f t (p - t) ++ iv u)).length < z.length := by
  obtain ⟨v, s, m, e1, e2, e3⟩ := cj_form (u := u) hR hp hz
  refine ⟨v, s, e1, e2, fun t p ht hd => ?_⟩
  have hy := red_Rd (z ++ u)
  have hzy : red (red (z ++ u) ++ iv u) = z := by
    rw [red_app, List.append_assoc]
    have h1 := eqv_ap (eqv_rf z) (eqv_l u)
    rw [eqv_rd h1, List.append_nil, red_id hz]
  have hjoin : ∀ x, (red (z ++ u)).getLast? = some x → u.getLast? ≠ some x → z.length = (red (z ++ u)).length + u.length := by
    intro x h1 h2
    have h3 : Rd (red (z ++ u) ++ iv u) := by
      refine (Rd_app _ _).mpr ⟨hy, Rd_iv ((Rd_app _ _).mp ((Rd_app _ _).mp hu).1).1, fun a b ha hb => ?_⟩
      rw [h1] at ha
      cases ha
      rw [iv_head] at hb
      cases hq : u.getLast? with
      | none => rw [hq] at hb; cases hb
      | some g =>
        rw [hq] at hb
        cases hb
        rw [fv_fv]
        intro hx
        exact h2 (by rw [hq, hx])
    rw [red_id h3] at hzy
    have h4 := congrArg List.length hzy
    rw [List.length_append, iv_len] at h4
    exact h4.symm
  rcases e3 with ⟨rfl, e4⟩ | ⟨k, e4, e5, e6⟩
  · have hle : t ≤ s := by
      rcases Nat.lt_or_ge (s % (n + 1)) t with h | h
      · exact absurd (seg_mod hp s (n + 1)) (ht.2.2 _ h)
      · exact Nat.le_trans h (Nat.mod_le _ _)
    rcases Nat.lt_or_ge t s with h | h
    · right; right; left
      obtain ⟨j, rfl⟩ : ∃ j, s = j + 1 := ⟨s - 1, by omega⟩
      have h1 := hjoin (fv (f 0)) (by rw [e4, List.getLast?_append, iv_last, seg_head]; rfl) (fun q => ((Rd_app _ _).mp ((Rd_app _ _).mp hu).1).2.2 _ _ q seg_head rfl)
      have h2 := red_len (v ++ iv (seg f 0 t) ++ iv u)
      rw [h1, e4]
      simp only [List.length_append, iv_len, seg_len] at h2 ⊢
      omega
    · left
      have h1 : t = s := by omega
      rw [h1, ← e4, hzy]
  · rcases Nat.eq_zero_or_pos m with h0 | h0
    · left
      have h1 : t = 0 := by
        rcases Nat.eq_zero_or_pos t with h | h
        · exact h
        · refine absurd ?_ (ht.2.2 0 h)
          have h2 := seg_shift (f := f) (per_mul hp (k + 1)) 0 (n + 1)
          rw [e5, h0, Nat.sub_zero, ← h2, Nat.zero_add]
      have h2 : red (z ++ u) = v := by rw [e6, h0, seg_0, List.append_nil]
      rw [h1, seg_0, iv_nil, List.append_nil, ← h2, hzy]
    · have hall := seg_all hp ht.2.1
      have hper : Per f (t + m) := fun i => by
        have h1 := hall (i + m)
        rw [show i + (t + m) = t + (i + m) by omega, h1, e5, show (n + 1) * (k + 1) - m + (i + m) = i + (n + 1) * (k + 1) by omega, per_mul hp]
      have hg := per_gcd _ _ hper hp
      have hg1 : Nat.gcd (t + m) (n + 1) ≤ t + m := Nat.le_of_dvd (by omega) (Nat.gcd_dvd_left _ _)
      have hg2 : 1 ≤ Nat.gcd (t + m) (n + 1) := Nat.gcd_pos_of_pos_left _ (by omega)
      have hpm : p ≤ t + m := by
        rcases Nat.lt_or_ge (Nat.gcd (t + m) (n + 1)) p with h | h
        · exact absurd hg (hd.2.2.2 _ hg2 h (Nat.gcd_dvd_right _ _))
        · omega
      rcases Nat.lt_or_ge (p - t) m with h | h
      · right; right; right
        obtain ⟨j, rfl⟩ : ∃ j, m = j + 1 := ⟨m - 1, by omega⟩
        have hfn : f (s + j) = f n := by
          have h1 : s + j = n + (n + 1) * k := by
            have : (n + 1) * (k + 1) = (n + 1) * k + (n + 1) := Nat.mul_succ _ _
            omega
          rw [h1, per_mul hp]
        have h1 := hjoin (f n) (by rw [e6, List.getLast?_append, seg_last, hfn]; rfl) (fun q => by
          have h2 := ((Rd_app _ _).mp hu).2.2 (f n) (fv (f n)) (by rw [List.getLast?_append, seg_last, Nat.zero_add]; rfl) (by rw [iv_head, q]; rfl)
          exact h2 (fv_fv _).symm)
        have h2 := red_len (v ++ seg f t (p - t) ++ iv u)
        rw [h1, e6]
        simp only [List.length_append, iv_len, seg_len] at h2 ⊢
        omega
      · right; left
        have h1 : p - t = m := by omega
        have h2 : seg f t m = seg f s m := seg_cong fun i _ => hall i
        rw [h1, h2, ← e6, hzy]
/-! the same, letter by letter -/
def gd (xs : List Nat) (i : Nat) : Nat := xs.getD i 0
theorem gd_some {xs : List Nat} {i x : Nat} (h : xs[i]? = some x) : gd xs i = x := by simp [gd, h]
theorem gd_at {xs : List Nat} {i : Nat} (h : i < xs.length) : xs[i]? = some (gd xs i) := by simp [gd, h]
theorem gd_app1 {xs ys : List Nat} {i : Nat} (h : i < xs.length) : gd (xs ++ ys) i = gd xs i := by simp [gd, List.getElem?_append_left h]
theorem gd_app2 {xs ys : List Nat} {i : Nat} (h : xs.length ≤ i) : gd (xs ++ ys) i = gd ys (i - xs.length) := by simp [gd, List.getElem?_append_right h]
theorem gd_seg {f : Nat → Nat} {a n i : Nat} (h : i < n) : gd (seg f a n) i = f (a + i) := gd_some (seg_at h)
theorem gd_iv {xs : List Nat} {i : Nat} (h : i < xs.length) : gd (iv xs) i = fv (gd xs (xs.length - 1 - i)) := by
  refine gd_some ?_
  have h2 : xs.length - 1 - i < xs.length := by omega
  unfold iv
  rw [List.getElem?_reverse (by simpa using h)]
  simp only [List.length_map, List.getElem?_map, gd_at h2, Option.map_some]
theorem gd_ext {xs ys : List Nat} (hl : xs.length = ys.length) (h : ∀ i, i < xs.length → gd xs i = gd ys i) : xs = ys := by
  refine List.ext_getElem? fun i => ?_
  rcases Nat.lt_or_ge i xs.length with q | q
  · rw [gd_at q, gd_at (by omega), h i q]
  · rw [List.getElem?_eq_none q, List.getElem?_eq_none (by omega)]
theorem gd_all (xs : List Nat) : seg (gd xs) 0 xs.length = xs := gd_ext (seg_len _ _ _) fun i hi => by rw [seg_len] at hi; rw [gd_seg hi, Nat.zero_add]
theorem Rd_at : ∀ {xs : List Nat}, Rd xs → ∀ i, i + 1 < xs.length → gd xs i ≠ fv (gd xs (i + 1))
  | [], _, i, hi => by simp at hi
  | [_], _, i, hi => by simp at hi
  | _ :: _ :: _, h, 0, _ => h.1
  | _ :: y :: t, h, i + 1, hi => Rd_at (xs := y :: t) h.2 i (by simpa using hi)
theorem Rd_of : ∀ {xs : List Nat}, (∀ i, i + 1 < xs.length → gd xs i ≠ fv (gd xs (i + 1))) → Rd xs
  | [], _ => trivial
  | [_], _ => trivial
  | _ :: y :: t, h => ⟨h 0 (by simp), Rd_of (xs := y :: t) fun i hi => h (i + 1) (by simpa using hi)⟩
def Ec (xs : List Nat) (i : Nat) : Prop := 2 * i + 1 < xs.length ∧ gd xs i = fv (gd xs (xs.length - 1 - i))
/-- where the core begins -/
def IsE (xs : List Nat) (e : Nat) : Prop := (∀ i, i < e → Ec xs i) ∧ ¬ Ec xs e
theorem IsE_ex (xs : List Nat) : ∃ e, IsE xs e := by
  obtain ⟨e, h1, h2⟩ := pk_least (fun e => ¬ Ec xs e) ⟨xs.length, fun h => by have := h.1; omega⟩
  exact ⟨e, fun i hi => Classical.byContradiction fun z => h2 i hi z, h1⟩
theorem IsE_le {xs : List Nat} {e : Nat} (h : IsE xs e) : 2 * e ≤ xs.length := by
  rcases Nat.eq_zero_or_pos e with q | q
  · omega
  · have := (h.1 (e - 1) (by omega)).1; omega
theorem IsE_core {xs : List Nat} {e : Nat} (hr : Rd xs) (h : IsE xs e) (h0 : xs ≠ []) : 2 * e < xs.length := by
  have hl : 0 < xs.length := List.length_pos_iff.mpr h0
  have h1 := IsE_le h
  rcases Nat.lt_or_ge (2 * e) xs.length with q | q
  · exact q
  · exfalso
    have h2 := h.1 (e - 1) (by omega)
    refine Rd_at hr (e - 1) (by omega) ?_
    rw [h2.2, show xs.length - 1 - (e - 1) = e - 1 + 1 by omega]
/-- the core, going round -/
def rnd (xs : List Nat) (e n : Nat) (i : Nat) : Nat := gd xs (e + i % (n + 1))
theorem rnd_per (xs : List Nat) (e n : Nat) : Per (rnd xs e n) (n + 1) := fun i => by simp [rnd]
theorem rnd_lt {xs : List Nat} {e n i : Nat} (h : i < n + 1) : rnd xs e n i = gd xs (e + i) := by rw [rnd, Nat.mod_eq_of_lt h]
theorem rnd_Rnd {xs : List Nat} {e n : Nat} (hr : Rd xs) (h : IsE xs e) (hl : xs.length = 2 * e + (n + 1)) : Rnd (rnd xs e n) := by
  intro i
  have h1 := Nat.mod_lt i (show 0 < n + 1 by omega)
  have h3 := Nat.mod_add_div i (n + 1)
  rcases Nat.lt_or_ge (i % (n + 1) + 1) (n + 1) with q | q
  · have h2 : (i + 1) % (n + 1) = i % (n + 1) + 1 := by
      rw [show i + 1 = (i % (n + 1) + 1) + (n + 1) * (i / (n + 1)) by omega, Nat.add_mul_mod_self_left, Nat.mod_eq_of_lt q]
    rw [rnd, rnd, h2]
    exact Rd_at hr (e + i % (n + 1)) (by omega)
  · have h4 : i % (n + 1) = n := by omega
    have h2 : (i + 1) % (n + 1) = 0 := by
      rw [show i + 1 = (n + 1) + (n + 1) * (i / (n + 1)) by omega, Nat.add_mul_mod_self_left, Nat.mod_self]
    rw [rnd, rnd, h2, h4, Nat.add_zero]
    rcases Nat.eq_zero_or_pos n with z | z
    · rw [z, Nat.add_zero]; exact fv_ne _
    · intro hx
      refine h.2 ⟨by omega, ?_⟩
      rw [fv_eq, show xs.length - 1 - e = e + n by omega, hx]
theorem cj_split {xs : List Nat} {e n : Nat} (h : IsE xs e) (hl : xs.length = 2 * e + (n + 1)) : xs = cj_w (rnd xs e n) n (seg (gd xs) 0 e) 0 := by
  refine gd_ext ?_ fun i hi => ?_
  · simp only [cj_w, List.length_append, seg_len, iv_len]; omega
  · rw [cj_w]
    rcases Nat.lt_or_ge i e with q | q
    · rw [gd_app1 (by simp only [List.length_append, seg_len]; omega), gd_app1 (by rw [seg_len]; exact q), gd_seg q, Nat.zero_add]
    · rcases Nat.lt_or_ge i (e + (n + 1)) with q2 | q2
      · rw [gd_app1 (by simp only [List.length_append, seg_len]; omega), gd_app2 (by rw [seg_len]; exact q), seg_len, gd_seg (by omega), Nat.zero_add, rnd_lt (by omega), show e + (i - e) = i by omega]
      · rw [gd_app2 (by simp only [List.length_append, seg_len]; omega)]
        simp only [List.length_append, seg_len]
        rw [gd_iv (by rw [seg_len]; omega), seg_len, gd_seg (by omega), Nat.zero_add]
        have h2 := (h.1 (e - 1 - (i - (e + (n + 1)))) (by omega)).2
        rw [h2, fv_fv, show xs.length - 1 - (e - 1 - (i - (e + (n + 1)))) = i by omega]
theorem cj_len (f : Nat → Nat) (n : Nat) (v : List Nat) (s : Nat) : (cj_w f n v s).length = 2 * v.length + (n + 1) := by
  simp only [cj_w, List.length_append, seg_len, iv_len]; omega
theorem cj_pre {f : Nat → Nat} {n s i : Nat} {v : List Nat} (h : i < v.length) : gd (cj_w f n v s) i = gd v i := by
  rw [cj_w, gd_app1 (by simp only [List.length_append]; omega), gd_app1 h]
theorem cj_in {f : Nat → Nat} {n s i : Nat} {v : List Nat} (h : i < n + 1) : gd (cj_w f n v s) (v.length + i) = f (s + i) := by
  rw [cj_w, gd_app1 (by simp only [List.length_append, seg_len]; omega), gd_app2 (by omega), gd_seg (by omega)]
  congr 1; omega
theorem cj_IsE {f : Nat → Nat} {n s : Nat} (hR : Rnd f) (hp : Per f (n + 1)) (v : List Nat) : IsE (cj_w f n v s) v.length := by
  constructor
  · intro i hi
    refine ⟨by rw [cj_len]; omega, ?_⟩
    rw [cj_pre hi, cj_len, cj_w, gd_app2 (by simp only [List.length_append, seg_len]; omega)]
    simp only [List.length_append, seg_len]
    rw [gd_iv (by omega), fv_fv, show v.length - 1 - (2 * v.length + (n + 1) - 1 - i - (v.length + (n + 1))) = i by omega]
  · rintro ⟨h1, h2⟩
    rw [cj_len] at h1 h2
    have h3 := cj_in (f := f) (n := n) (s := s) (v := v) (i := 0) (by omega)
    have h4 := cj_in (f := f) (n := n) (s := s) (v := v) (i := n) (by omega)
    rw [Nat.add_zero, Nat.add_zero] at h3
    rw [show 2 * v.length + (n + 1) - 1 - v.length = v.length + n by omega, h3, h4] at h2
    have h5 := hR (s + n)
    rw [show s + n + 1 = s + (n + 1) by omega, hp] at h5
    exact h5 (fv_eq.mpr h2.symm)
def Rp (xs : List Nat) (e core p : Nat) : Prop := ∀ i, p ≤ i → i < core → gd xs (e + i) = gd xs (e + i - p)
/-- the core's shortest part -/
def IsP (xs : List Nat) (e core p : Nat) : Prop := 1 ≤ p ∧ p ≤ core ∧ core % p = 0 ∧ Rp xs e core p ∧ ∀ q, 1 ≤ q → q < p → ¬ (core % q = 0 ∧ Rp xs e core q)
def It (M : List Nat) (eM : Nat) (w : List Nat) (ew core t : Nat) : Prop := ∀ i, i < core → gd M (eM + i) = gd w (ew + if i + t < core then i + t else i + t - core)
/-- by how many letters the core is turned -/
def IsT (M : List Nat) (eM : Nat) (w : List Nat) (ew core t : Nat) : Prop := t < core ∧ It M eM w ew core t ∧ ∀ q, q < t → ¬ It M eM w ew core q
theorem Rp_iff {xs : List Nat} {e n p : Nat} (h1 : 1 ≤ p) (hd : p ∣ n + 1) : Rp xs e (n + 1) p ↔ Per (rnd xs e n) p := by
  obtain ⟨K, hK⟩ := hd
  constructor
  · intro h
    have step : ∀ j, j + p < n + 1 → rnd xs e n (j + p) = rnd xs e n j := fun j hj => by
      rw [rnd_lt hj, rnd_lt (by omega), h (j + p) (by omega) hj]
      congr 1; omega
    have chain : ∀ k j, j + p * k < n + 1 → rnd xs e n (j + p * k) = rnd xs e n j := by
      intro k
      induction k with
      | zero => intro j _; rfl
      | succ k ih =>
        intro j hj
        rw [Nat.mul_succ, ← Nat.add_assoc] at hj ⊢
        rw [step _ hj, ih j (by omega)]
    intro i
    have h3 := Nat.mod_add_div i (n + 1)
    have h4 := Nat.mod_lt i (show 0 < n + 1 by omega)
    have e1 : rnd xs e n i = rnd xs e n (i % (n + 1)) := by simp [rnd]
    have e2 : rnd xs e n (i + p) = rnd xs e n (i % (n + 1) + p) := by simp [rnd, Nat.add_mod]
    rw [e1, e2]
    rcases Nat.lt_or_ge (i % (n + 1) + p) (n + 1) with q | q
    · exact step _ q
    · have hK1 : 1 ≤ K := by
        rcases Nat.eq_zero_or_pos K with z | z
        · rw [z, Nat.mul_zero] at hK; omega
        · exact z
      have e5 : p * (K - 1) + p = n + 1 := by
        rw [hK, ← Nat.mul_succ]
        congr 1
        omega
      have e6 : rnd xs e n (i % (n + 1) + p) = rnd xs e n (i % (n + 1) + p - (n + 1)) := by
        have h5 := rnd_per xs e n (i % (n + 1) + p - (n + 1))
        rw [Nat.sub_add_cancel q] at h5
        exact h5
      have e7 : i % (n + 1) + p - (n + 1) + p * (K - 1) = i % (n + 1) := by omega
      rw [e6, ← chain (K - 1) (i % (n + 1) + p - (n + 1)) (by rw [e7]; exact h4), e7]
  · intro h i hi hc
    have h2 := h (i - p)
    rw [Nat.sub_add_cancel hi, rnd_lt hc, rnd_lt (by omega)] at h2
    rw [h2]
    congr 1; omega
theorem IsP_Pd {xs : List Nat} {e n p : Nat} (h : Pd (rnd xs e n) n p) : IsP xs e (n + 1) p := by
  obtain ⟨h1, h2, h3, h4⟩ := h
  exact ⟨h1, Nat.le_of_dvd (by omega) h2, Nat.mod_eq_zero_of_dvd h2, (Rp_iff h1 h2).mpr h3, fun q q1 q2 q3 => h4 q q1 q2 (Nat.dvd_of_mod_eq_zero q3.1) ((Rp_iff q1 (Nat.dvd_of_mod_eq_zero q3.1)).mp q3.2)⟩
theorem It_iff {w : List Nat} {ew n s t : Nat} {v : List Nat} (ht : t < n + 1) : It (cj_w (rnd w ew n) n v s) v.length w ew (n + 1) t ↔ seg (rnd w ew n) t (n + 1) = seg (rnd w ew n) s (n + 1) := by
  have key : ∀ i, i < n + 1 → gd w (ew + if i + t < n + 1 then i + t else i + t - (n + 1)) = rnd w ew n (t + i) := fun i hi => by
    split
    · rename_i q
      rw [rnd_lt (by omega), Nat.add_comm t i]
    · rename_i q
      rw [← rnd_lt (xs := w) (e := ew) (n := n) (i := i + t - (n + 1)) (by omega), ← rnd_per w ew n (i + t - (n + 1)), Nat.sub_add_cancel (by omega), Nat.add_comm]
  constructor
  · intro h
    refine seg_cong fun i hi => ?_
    have h1 := h i hi
    rw [cj_in hi, key i hi] at h1
    exact h1.symm
  · intro h i hi
    rw [cj_in hi, key i hi]
    exact (seg_all (rnd_per w ew n) h i).symm
theorem IsT_Tn {w : List Nat} {ew n s t : Nat} {v : List Nat} (h : Tn (rnd w ew n) n s t) : IsT (cj_w (rnd w ew n) n v s) v.length w ew (n + 1) t :=
  ⟨h.1, (It_iff h.1).mpr h.2.1, fun q hq z => h.2.2 q hq ((It_iff (by have := h.1; omega)).mp z)⟩
/-! by length, then by the first letter that differs -/
def lx : List Nat → List Nat → Int32
  | a :: s, b :: t => if a < b then -1 else if b < a then 1 else lx s t
  | _, _ => 0
def fo (xs ys : List Nat) : Int32 := if xs.length < ys.length then -1 else if ys.length < xs.length then 1 else lx xs ys
theorem lx_self : ∀ xs : List Nat, lx xs xs = 0
  | [] => rfl
  | a :: s => by simp [lx, lx_self s]
theorem lx_neg : ∀ xs ys : List Nat, lx ys xs = - lx xs ys
  | [], [] => by simp [lx]
  | [], _ :: _ => by simp [lx]
  | _ :: _, [] => by simp [lx]
  | a :: s, b :: t => by
    simp only [lx]
    by_cases h1 : a < b
    · rw [if_pos h1, if_neg (by omega), if_pos h1]; rfl
    · rw [if_neg h1]
      by_cases h2 : b < a
      · rw [if_pos h2, if_neg h1, if_pos h2]
      · rw [if_neg h2, if_neg h2, if_neg h1]
        exact lx_neg s t
theorem lx_eq : ∀ xs ys : List Nat, xs.length = ys.length → lx xs ys = 0 → xs = ys
  | [], [], _, _ => rfl
  | [], _ :: _, h, _ => by simp at h
  | _ :: _, [], h, _ => by simp at h
  | a :: s, b :: t, h, h0 => by
    simp only [lx] at h0
    by_cases h1 : a < b
    · rw [if_pos h1] at h0; exact absurd h0 (by decide)
    · rw [if_neg h1] at h0
      by_cases h2 : b < a
      · rw [if_pos h2] at h0; exact absurd h0 (by decide)
      · rw [if_neg h2] at h0
        rw [show a = b by omega, lx_eq s t (by simpa using h) h0]
theorem lx_in : ∀ xs ys : List Nat, lx xs ys = -1 ∨ lx xs ys = 0 ∨ lx xs ys = 1
  | [], [] => Or.inr (Or.inl rfl)
  | [], _ :: _ => Or.inr (Or.inl rfl)
  | _ :: _, [] => Or.inr (Or.inl rfl)
  | a :: s, b :: t => by
    simp only [lx]
    by_cases h1 : a < b
    · rw [if_pos h1]; exact Or.inl rfl
    · rw [if_neg h1]
      by_cases h2 : b < a
      · rw [if_pos h2]; exact Or.inr (Or.inr rfl)
      · rw [if_neg h2]; exact lx_in s t
theorem fo_self (xs : List Nat) : fo xs xs = 0 := by simp [fo, lx_self]
theorem fo_neg (xs ys : List Nat) : fo ys xs = - fo xs ys := by
  unfold fo
  by_cases h1 : xs.length < ys.length
  · rw [if_pos h1, if_neg (by omega), if_pos h1]; rfl
  · rw [if_neg h1]
    by_cases h2 : ys.length < xs.length
    · rw [if_pos h2, if_neg h1, if_pos h2]
    · rw [if_neg h2, if_neg h2, if_neg h1]; exact lx_neg xs ys
theorem fo_eq {xs ys : List Nat} (h : fo xs ys = 0) : xs = ys := by
  unfold fo at h
  by_cases h1 : xs.length < ys.length
  · rw [if_pos h1] at h; exact absurd h (by decide)
  · rw [if_neg h1] at h
    by_cases h2 : ys.length < xs.length
    · rw [if_pos h2] at h; exact absurd h (by decide)
    · rw [if_neg h2] at h; exact lx_eq xs ys (by omega) h
theorem fo_in (xs ys : List Nat) : fo xs ys = -1 ∨ fo xs ys = 0 ∨ fo xs ys = 1 := by
  unfold fo
  by_cases h1 : xs.length < ys.length
  · rw [if_pos h1]; exact Or.inl rfl
  · rw [if_neg h1]
    by_cases h2 : ys.length < xs.length
    · rw [if_pos h2]; exact Or.inr (Or.inr rfl)
    · rw [if_neg h2]; exact lx_in xs ys
theorem fo_lt {xs ys : List Nat} (h : xs.length < ys.length) : fo xs ys = -1 := by unfold fo; rw [if_pos h]
theorem fo_neg_len {xs ys : List Nat} (h : fo xs ys < 0) : xs.length ≤ ys.length := by
  unfold fo at h
  by_cases h1 : xs.length < ys.length
  · omega
  · rw [if_neg h1] at h
    by_cases h2 : ys.length < xs.length
    · rw [if_pos h2] at h; exact absurd h (by decide)
    · omega
theorem fo_nneg_len {xs ys : List Nat} (h : ¬ fo xs ys < 0) : ys.length ≤ xs.length := by
  unfold fo at h
  by_cases h1 : xs.length < ys.length
  · rw [if_pos h1] at h; exact absurd (by decide) h
  · omega
/-- the first of two ways -/
def frst (K1 K2 : List Nat) : List Nat := if fo K2 K1 < 0 then K2 else K1
theorem frst_le {K1 K2 z : List Nat} (h : z = K1 ∨ z = K2 ∨ K1.length < z.length ∨ K2.length < z.length) : fo (frst K1 K2) z ≤ 0 := by
  unfold frst
  by_cases hc : fo K2 K1 < 0
  · rw [if_pos hc]
    have h1 := fo_neg_len hc
    rcases h with rfl | rfl | h | h
    · rcases fo_in K2 z with q | q | q
      · rw [q]; decide
      · rw [q]; decide
      · rw [q] at hc; exact absurd hc (by decide)
    · rw [fo_self]; decide
    · rw [fo_lt (by omega)]; decide
    · rw [fo_lt h]; decide
  · rw [if_neg hc]
    have h1 := fo_nneg_len hc
    rcases h with rfl | rfl | h | h
    · rw [fo_self]; decide
    · rw [fo_neg z K1]
      rcases fo_in z K1 with q | q | q
      · rw [q] at hc; exact absurd (by decide) hc
      · rw [q]; decide
      · rw [q]; decide
    · rw [fo_lt h]; decide
    · rw [fo_lt (by omega)]; decide
/-- all that the law says of conjugators -/
theorem cj_law {w z : List Nat} (hw : Rd w) (hz : Rd z) (h0 : w ≠ []) : ∃ eW eM core t p, IsE w eW ∧ IsE (red (z ++ w ++ iv z)) eM ∧ 1 ≤ core ∧ w.length = 2 * eW + core ∧ (red (z ++ w ++ iv z)).length = 2 * eM + core ∧ IsT (red (z ++ w ++ iv z)) eM w eW core t ∧ IsP w eW core p ∧ t < p ∧
    ∀ K1 K2, K1 = red (seg (gd (red (z ++ w ++ iv z))) 0 eM ++ iv (seg (gd w) eW t) ++ iv (seg (gd w) 0 eW)) → K2 = red (seg (gd (red (z ++ w ++ iv z))) 0 eM ++ seg (gd w) (eW + t) (p - t) ++ iv (seg (gd w) 0 eW)) →
      fo (frst K1 K2) z ≤ 0 ∧ red (frst K1 K2 ++ w ++ iv (frst K1 K2)) = red (z ++ w ++ iv z) := by
  obtain ⟨eW, hE⟩ := IsE_ex w
  have hc := IsE_core hw hE h0
  obtain ⟨n, hn⟩ : ∃ n, w.length = 2 * eW + (n + 1) := ⟨w.length - 2 * eW - 1, by omega⟩
  have hR := rnd_Rnd hw hE hn
  have hp := rnd_per w eW n
  have hs := cj_split hE hn
  have hu : Rd (cj_w (rnd w eW n) n (seg (gd w) 0 eW) 0) := by rw [← hs]; exact hw
  obtain ⟨v, s, e1, e2, e3⟩ := cj_best hR hp hu hz
  obtain ⟨t, ht⟩ := Tn_ex hp s
  obtain ⟨p, hd⟩ := Pd_ex hp
  have htp := Tn_lt ht hd
  have hpn : p ≤ n + 1 := Nat.le_of_dvd (by omega) hd.2.1
  rw [← hs] at e1
  rw [e1]
  refine ⟨eW, v.length, n + 1, t, p, hE, cj_IsE hR hp v, by omega, hn, cj_len _ _ _ _, IsT_Tn ht, IsP_Pd hd, htp, ?_⟩
  intro K1 K2 h1 h2
  have hv : seg (gd (cj_w (rnd w eW n) n v s)) 0 v.length = v := gd_ext (seg_len _ _ _) fun i hi => by
    rw [seg_len] at hi
    rw [gd_seg hi, Nat.zero_add, cj_pre hi]
  have h3 : seg (gd w) eW t = seg (rnd w eW n) 0 t := seg_cong fun i hi => by rw [Nat.zero_add, rnd_lt (by omega)]
  have h4 : seg (gd w) (eW + t) (p - t) = seg (rnd w eW n) t (p - t) := seg_cong fun i hi => by rw [rnd_lt (by omega), Nat.add_assoc]
  rw [hv, h3] at h1
  rw [hv, h4] at h2
  have h5 := e3 t p ht hd
  rw [← h1, ← h2] at h5
  refine ⟨frst_le h5, ?_⟩
  have k1 : red (K1 ++ w ++ iv K1) = cj_w (rnd w eW n) n v s := by
    have h6 := cj_one hp e2 ht (K := K1) (by rw [h1]; exact eqv_red _)
    rw [← hs] at h6
    exact h6
  have k2 : red (K2 ++ w ++ iv K2) = cj_w (rnd w eW n) n v s := by
    have h6 := cj_two hp e2 ht hd (K := K2) (by rw [h2]; exact eqv_red _)
    rw [← hs] at h6
    exact h6
  unfold frst
  split
  · exact k2
  · exact k1
end
section
/-! numbers and letters of the machine; 'nx_xor', 'fa_byte_small' are the kit's rows, pasted -/
theorem nx_xor (a b : Nat) : nI a ^^^ nI b = nI (a ^^^ b) := by
  apply Int32.toBitVec_inj.1
  show BitVec.ofNat 32 a ^^^ BitVec.ofNat 32 b = BitVec.ofNat 32 (a ^^^ b)
  apply BitVec.eq_of_getLsbD_eq
  intro i hi
  simp [hi]
theorem fa_byte_small {n : Nat} (h : n < 128) : (nI n).toInt8.toInt32 = nI n := by
  have : ∀ j : Fin 128, (nI j.val).toInt8.toInt32 = nI j.val := by decide +kernel
  exact this ⟨n, h⟩
theorem fx_add (a b : Nat) : nI a + nI b = nI (a + b) := nI_add a b
theorem fx_inc (a z : Nat) : nI a + Int32.ofInt (z : Int) = nI (a + z) := by rw [← nI_add]; rfl
theorem fx_fv (a : Nat) : nI a ^^^ nI 1 = nI (fv a) := nx_xor a 1
theorem fx_byte {n : Nat} (h : n < 128) : (nI n).toInt8.toInt32 = nI n := fa_byte_small h
theorem fx_nar {n : Nat} (h : n < 128) : vp_nar .byte (nI n) = nI n := by rw [vp_nar_byte]; exact fa_byte_small h
theorem fx_char {n : Nat} (h : n < 256) : ((nI n).toUInt32 % 65536).toInt32 = nI n := by
  have : ∀ j : Fin 256, ((nI j.val).toUInt32 % 65536).toInt32 = nI j.val := by decide +kernel
  exact this ⟨n, h⟩
theorem fx_z : nI 0 = 0 := rfl
theorem fx_le0 {n : Nat} (h : n < 2 ^ 31) : nI n ≤ 0 ↔ n = 0 := by rw [← fx_z, nI_leI h (by omega)]; omega
theorem fx_lt0 {n : Nat} (h : n < 2 ^ 31) : nI n < 0 ↔ False := by rw [← fx_z, nI_ltI h (by omega)]; exact ⟨fun h => absurd h (Nat.not_lt_zero _), False.elim⟩
theorem fx_ge0 {n : Nat} (h : n < 2 ^ 31) : 0 ≤ nI n ↔ True := by rw [← fx_z, nI_leI (by omega) h]; exact ⟨fun _ => trivial, fun _ => Nat.zero_le _⟩
theorem fx_gt0 {n : Nat} (h : n < 2 ^ 31) : 0 < nI n ↔ 0 < n := by rw [← fx_z, nI_ltI (by omega) h]
theorem fx_eq0 {n : Nat} (h : n < 2 ^ 31) : nI n = 0 ↔ n = 0 := by rw [← fx_z, nI_eq h (by omega)]
theorem fx_m1 (x : Int32) : x - nI 1 = x - 1 := rfl
theorem fx_dec (j : Nat) : nI j + Int32.ofInt (-1) = nI j - 1 := by
  rw [Int32.sub_eq_add_neg]; rfl
/-- going down: d places are left -/
theorem fx_dn {d : Nat} (h : d < 2 ^ 31) : nI d - 1 < 0 ↔ d = 0 := by
  cases d with
  | zero => exact ⟨fun _ => rfl, fun _ => by decide⟩
  | succ d =>
    rw [nI_pred]
    rw [fx_lt0 (by omega)]
    exact ⟨False.elim, fun h => by cases h⟩
/-- the letters that a row's array holds -/
def Hd (f : Nat → Int32) (xs : List Nat) : Prop := ∀ i, i < xs.length → f i = nI (gd xs i)
/-- letters alone -/
def L6 (xs : List Nat) : Prop := ∀ i, i < xs.length → gd xs i < 6
theorem L6_mem {xs : List Nat} : L6 xs ↔ ∀ a ∈ xs, a < 6 := by
  constructor
  · intro h a ha
    obtain ⟨i, hi⟩ := List.getElem?_of_mem ha
    have hl : i < xs.length := (List.getElem?_eq_some_iff.mp hi).1
    have := h i hl
    rwa [gd_some hi] at this
  · intro h i hi
    exact h _ (List.mem_of_getElem? (gd_at hi))
theorem psh_mem {xs : List Nat} {a x : Nat} (h : x ∈ psh xs a) : x ∈ xs ∨ x = a := by
  rcases fm_snoc xs with e | ⟨t, b, e⟩
  · subst e; rw [psh_0] at h; simp at h; exact Or.inr h
  · subst e
    by_cases hb : b = fv a
    · rw [psh_t hb] at h; exact Or.inl (by simp [h])
    · rw [psh_f' hb] at h; simp at h ⊢; rcases h with h | h | h <;> simp [h]
theorem L6_psh {xs : List Nat} {a : Nat} (h : L6 xs) (ha : a < 6) : L6 (psh xs a) := L6_mem.mpr fun x hx => by
  rcases psh_mem hx with q | q
  · exact L6_mem.mp h x q
  · rw [q]; exact ha
theorem L6_act : ∀ (ys : List Nat) {r : List Nat}, L6 r → L6 ys → L6 (act r ys)
  | [], _, h, _ => h
  | y :: t, _, h, hy => L6_act t (L6_psh h (L6_mem.mp hy y (by simp))) (L6_mem.mpr fun a ha => L6_mem.mp hy a (by simp [ha]))
theorem L6_nil : L6 [] := fun _ h => absurd h (Nat.not_lt_zero _)
theorem L6_app {xs ys : List Nat} (h : L6 xs) (h2 : L6 ys) : L6 (xs ++ ys) := L6_mem.mpr fun a ha => (List.mem_append.mp ha).elim (L6_mem.mp h a) (L6_mem.mp h2 a)
theorem L6_iv {xs : List Nat} (h : L6 xs) : L6 (iv xs) := L6_mem.mpr fun a ha => by
  simp only [iv, List.mem_reverse, List.mem_map] at ha
  obtain ⟨b, hb, rfl⟩ := ha
  exact fv_lt b (L6_mem.mp h b hb)
theorem L6_red {xs : List Nat} (h : L6 xs) : L6 (red xs) := L6_act xs L6_nil h
theorem L6_seg {xs : List Nat} {a n : Nat} (h : L6 xs) (hn : a + n ≤ xs.length) : L6 (seg (gd xs) a n) := L6_mem.mpr fun x hx => by
  simp only [seg, List.mem_map, List.mem_range] at hx
  obtain ⟨i, hi, rfl⟩ := hx
  exact h _ (by omega)
/-- a letter added: two cases -/
theorem psh_last {xs : List Nat} {a : Nat} (h0 : 0 < xs.length) (h : gd xs (xs.length - 1) = fv a) : (psh xs a).length = xs.length - 1 ∧ ∀ f, Hd f xs → Hd f (psh xs a) := by
  rcases fm_snoc xs with e | ⟨t, b, e⟩
  · subst e; simp at h0
  · subst e
    have hb : b = fv a := by
      rw [← h, List.length_append, List.length_singleton, Nat.add_sub_cancel, gd_app2 (Nat.le_refl _), Nat.sub_self]; rfl
    rw [psh_t hb]
    refine ⟨by simp, fun f hf i hi => ?_⟩
    rw [hf i (by simp; omega), gd_app1 hi]
theorem psh_other {xs : List Nat} {a : Nat} (h : 0 < xs.length → gd xs (xs.length - 1) ≠ fv a) : psh xs a = xs ++ [a] := by
  rcases fm_snoc xs with e | ⟨t, b, e⟩
  · subst e; exact psh_0 a
  · subst e
    refine psh_f' fun hb => h (by simp) ?_
    rw [List.length_append, List.length_singleton, Nat.add_sub_cancel, gd_app2 (Nat.le_refl _), Nat.sub_self]
    exact hb
theorem Hd_put {xs : List Nat} {a : Nat} {f : Nat → Int32} (h : Hd f xs) : Hd (upd f xs.length (nI a)) (xs ++ [a]) := by
  intro i hi
  rw [List.length_append, List.length_singleton] at hi
  rcases Nat.lt_or_ge i xs.length with q | q
  · rw [pk_un (by omega), h i q, gd_app1 q]
  · have : i = xs.length := by omega
    subst this
    rw [pk_us, gd_app2 (Nat.le_refl _), Nat.sub_self]; rfl
theorem Hd_nil (f : Nat → Int32) : Hd f [] := fun _ h => absurd h (Nat.not_lt_zero _)
section FZK
variable {p : Program} {l : Launch} {e : Env} {R : Room} {s : State} {m : MethodId} {args : Array Value} {below : List Frame} {meth : Method} {c : Code} {Q : State → Prop} {G : va_G} {A : Nat → Prop} {nL : Nat}
variable {ws : va_W} {k n pc : Nat} {lo : List (Nat × Value)} {st : List Value}
theorem j_leq {lo1 : List (Nat × Value)} (h : lo = lo1) (kk : J p l e R s m args below meth c Q G A nL ws k n pc lo1 st) : J p l e R s m args below meth c Q G A nL ws k n pc lo st := by rw [h]; exact kk
theorem j_seq {st1 : List Value} (h : st = st1) (kk : J p l e R s m args below meth c Q G A nL ws k n pc lo st1) : J p l e R s m args below meth c Q G A nL ws k n pc lo st := by rw [h]; exact kk
theorem j_weq {ws1 : va_W} (h : ws = ws1) (kk : J p l e R s m args below meth c Q G A nL ws1 k n pc lo st) : J p l e R s m args below meth c Q G A nL ws k n pc lo st := by rw [h]; exact kk
end FZK
end
section
theorem fx_nn {n : Nat} (h : n < 2 ^ 31) : ¬ nI n < 0 := nI_pos h
set_option maxRecDepth 100000 in
theorem fin_X7_init_RX7 : ∀ w ∈ u_ws RX7 TX7 2, w ∈ wsX7_init := by decide +kernel
set_option maxHeartbeats 4000000 in
set_option maxRecDepth 100000 in
/-- Row(R): a row of R places, no letter in it -/
theorem c_X7_init {l : Launch} {G : va_G} {cy : Nat → ClassId} {r R : Nat} (hR0 : 0 < R) (hR : R < 2 ^ 20) : Kv l yX7_init wsX7_init G cy [.ref r, .int (nI R)] [(r, .inr (9, [.null, .int (nI 0)]))] (fun (_ : Nat) => True) (fun q => [(r, .inr (9, [.ref q, .int (nI 0)])), (q, .inl (cy 0, R, .inl (fun _ => 0)))]) 1 1 R 20 := by
  refine Kv_of (cc := cX7_init) (nL := 2) (by decide) rfl (Nat.le_of_ble_eq_true rfl) ?_
  intro p e s m args below meth c A C hnm
  refine j_lo (lo1 := [(0, .ref r), (1, .int (nI R))]) [0, 1] rfl ?_
  refine j_aload_n C rfl 0 rfl dX7_init_0 ?_
  refine j_oinit C (by decide +kernel) (by decide +kernel) (by decide +kernel) (Nat.le_of_ble_eq_true rfl) (Nat.le_of_ble_eq_true rfl) dX7_init_1 ?_
  refine j_aload_n C rfl 0 rfl dX7_init_4 ?_
  refine j_iload_n C rfl 1 rfl dX7_init_5 ?_
  refine j_if_le C (P := R = 0) (fx_le0 (by omega)) (tgt := 13) (by decide) dX7_init_6 (fun ht => absurd ht (by omega)) (fun hq => ?_)
  refine j_iload_n C rfl 1 rfl dX7_init_9 ?_
  refine j_goto C (tgt := 14) (by decide) dX7_init_10 ?_
  refine j_newa C (at9 := .byte) 0 (by decide +kernel) rfl rfl (N := R) (a0 := (R, .inl (fun _ => 0))) (k1 := 1) (n1 := R) (fun _ => rfl) (nI_pos (by omega)) (nI_clamp (by omega)) (by show R * 1 ≤ _; omega) (Nat.le_of_ble_eq_true rfl) (by show 0 + R ≤ R; omega) (by decide) (by omega) dX7_init_14 (fun q => ?_)
  refine j_putF C (Cn := RX7) (T := TX7) (ty := tyX7) (N := 2) (ws1 := [(r, .inr (9, [.ref q, .int (nI 0)])), (q, .inl (cy 0, R, .inl (fun _ => 0)))]) fin_X7_init_RX7 tyX7_ok nmX7 0 rfl rfl 0 (by decide) (by decide +kernel) rfl hnm rfl rfl rfl (Nat.le_of_ble_eq_true rfl) rfl dX7_init_16 ?_
  exact j_vret C q trivial [0, 1] rfl (by decide) (Nat.le_refl _) (Nat.le_refl _) dX7_init_19
set_option maxRecDepth 100000 in
theorem fin_X7_clear_RX7 : ∀ w ∈ u_ws RX7 TX7 2, w ∈ wsX7_clear := by decide +kernel
set_option maxHeartbeats 4000000 in
set_option maxRecDepth 100000 in
theorem c_X7_clear {l : Launch} {G : va_G} {cy : Nat → ClassId} {r lt : Nat} {n : Int32} : Kv l yX7_clear wsX7_clear G cy [.ref r] [(r, .inr (9, [.ref lt, .int n]))] (fun (_ : Unit) => True) (fun _ => [(r, .inr (9, [.ref lt, .int (nI 0)]))]) 0 0 0 0 := by
  refine Kv_of (cc := cX7_clear) (nL := 1) (by decide) rfl (Nat.le_of_ble_eq_true rfl) ?_
  intro p e s m args below meth c A C hnm
  refine j_lo (lo1 := [(0, .ref r)]) [0] rfl ?_
  refine j_aload_n C rfl 0 rfl dX7_clear_0 ?_
  refine j_iconst C (v := (nI 0)) (by decide +kernel) dX7_clear_1 ?_
  refine j_putf C (Cn := RX7) (T := TX7) (ty := tyX7) (N := 2) (ws1 := [(r, .inr (9, [.ref lt, .int (nI 0)]))]) fin_X7_clear_RX7 tyX7_ok nmX7 0 rfl rfl 1 (by decide) (by decide +kernel) rfl rfl rfl (Nat.le_of_ble_eq_true rfl) rfl dX7_clear_2 ?_
  exact j_vret C (()) (trivial) [0] rfl (by decide) (Nat.le_of_ble_eq_true rfl) (Nat.le_of_ble_eq_true rfl) dX7_clear_5
set_option maxRecDepth 100000 in
theorem fin_X7_add_RX7 : ∀ w ∈ u_ws RX7 TX7 2, w ∈ wsX7_add := by decide +kernel
set_option maxHeartbeats 4000000 in
set_option maxRecDepth 100000 in
/-- add: the letter cancels the last one, or comes behind it -/
theorem c_X7_add {l : Launch} {G : va_G} {cy : Nat → ClassId} {r lt R : Nat} {xs : List Nat} {f : Nat → Int32} (hR : R < 2 ^ 20) {a : Nat} (hx : xs.length < R) (h6 : L6 xs) (ha : a < 6) (hf : Hd f xs) : Kv l yX7_add wsX7_add G cy [.ref r, .int (nI a)] [(r, .inr (9, [.ref lt, .int (nI xs.length)])), (lt, .inl (cy 0, R, .inl f))] (fun g : Nat → Int32 => Hd g (psh xs a)) (fun g => [(r, .inr (9, [.ref lt, .int (nI ((psh xs a).length))])), (lt, .inl (cy 0, R, .inl g))]) 0 0 0 0 := by
  refine Kv_of (cc := cX7_add) (nL := 2) (by decide) rfl (Nat.le_of_ble_eq_true rfl) ?_
  intro p e s m args below meth c A C hnm
  refine j_lo (lo1 := [(0, .ref r), (1, .int (nI a))]) [0, 1] rfl ?_
  refine j_aload_n C rfl 0 rfl dX7_add_0 ?_
  refine j_getf C (Cn := RX7) (T := TX7) (N := 2) fin_X7_add_RX7 0 rfl rfl 1 (by decide) (by decide +kernel) rfl dX7_add_1 ?_
  refine j_if_le C (P := xs.length = 0) (fx_le0 (by omega)) (tgt := 37) (by decide) dX7_add_4 (fun h0 => ?_) (fun h0 => ?_)
  · have hpo : psh xs a = xs ++ [a] := psh_other (fun h => absurd h (by omega))
    have hlen : (psh xs a).length = xs.length + 1 := by rw [hpo, List.length_append]; rfl
    refine j_aload_n C rfl 0 rfl dX7_add_37 ?_
    refine j_getf C (Cn := RX7) (T := TX7) (N := 2) fin_X7_add_RX7 0 rfl rfl 1 (by decide) (by decide +kernel) rfl dX7_add_38 ?_
    refine j_aload_n C rfl 0 rfl dX7_add_41 ?_
    refine j_getf C (Cn := RX7) (T := TX7) (N := 2) fin_X7_add_RX7 0 rfl rfl 0 (by decide) (by decide +kernel) rfl dX7_add_42 ?_
    refine j_alen C 1 0 rfl rfl (v := (nI R)) rfl dX7_add_45 ?_
    refine j_icmp_ge C (P := R ≤ xs.length) (nI_leI (by omega) (by omega)) (tgt := 70) (by decide) dX7_add_46 (fun ht => absurd ht (by omega)) (fun hq => ?_)
    refine j_aload_n C rfl 0 rfl dX7_add_49 ?_
    refine j_getf C (Cn := RX7) (T := TX7) (N := 2) fin_X7_add_RX7 0 rfl rfl 0 (by decide) (by decide +kernel) rfl dX7_add_50 ?_
    refine j_aload_n C rfl 0 rfl dX7_add_53 ?_
    refine j_getf C (Cn := RX7) (T := TX7) (N := 2) fin_X7_add_RX7 0 rfl rfl 1 (by decide) (by decide +kernel) rfl dX7_add_54 ?_
    refine j_iload_n C rfl 1 rfl dX7_add_57 ?_
    refine j_i2b C (v := (nI a)) (fx_byte (by omega)) dX7_add_58 ?_
    refine j_bast C 1 rfl (j := xs.length) (by omega) (by omega) (fx_nar (by omega)) (ws1 := [(r, .inr (9, [.ref lt, .int (nI xs.length)])), (lt, .inl (cy 0, R, .inl (upd f xs.length (nI a))))]) rfl dX7_add_59 ?_
    refine j_aload_n C rfl 0 rfl dX7_add_60 ?_
    refine j_dup C rfl dX7_add_61 ?_
    refine j_getf C (Cn := RX7) (T := TX7) (N := 2) fin_X7_add_RX7 0 rfl rfl 1 (by decide) (by decide +kernel) rfl dX7_add_62 ?_
    refine j_iconst C (v := (nI 1)) (by decide +kernel) dX7_add_65 ?_
    refine j_iadd C (v := (nI (xs.length + 1))) (fx_add xs.length 1) dX7_add_66 ?_
    refine j_putf C (Cn := RX7) (T := TX7) (ty := tyX7) (N := 2) (ws1 := [(r, .inr (9, [.ref lt, .int (nI (xs.length + 1))])), (lt, .inl (cy 0, R, .inl (upd f xs.length (nI a))))]) fin_X7_add_RX7 tyX7_ok nmX7 0 rfl rfl 1 (by decide) (by decide +kernel) rfl rfl rfl (Nat.le_of_ble_eq_true rfl) rfl dX7_add_67 ?_
    exact j_vret C (upd f xs.length (nI a)) (by rw [hpo]; exact Hd_put hf) [0, 1] (by rw [hlen]; rfl) (by decide) (Nat.le_of_ble_eq_true rfl) (Nat.le_of_ble_eq_true rfl) dX7_add_70
  · refine j_aload_n C rfl 0 rfl dX7_add_7 ?_
    refine j_getf C (Cn := RX7) (T := TX7) (N := 2) fin_X7_add_RX7 0 rfl rfl 0 (by decide) (by decide +kernel) rfl dX7_add_8 ?_
    refine j_aload_n C rfl 0 rfl dX7_add_11 ?_
    refine j_getf C (Cn := RX7) (T := TX7) (N := 2) fin_X7_add_RX7 0 rfl rfl 1 (by decide) (by decide +kernel) rfl dX7_add_12 ?_
    refine j_iconst C (v := (nI 1)) (by decide +kernel) dX7_add_15 ?_
    refine j_isub C (v := (nI (xs.length - 1))) (pk_sub (by omega)) dX7_add_16 ?_
    refine j_bald C 1 rfl (j := xs.length - 1) (by omega) (by omega) (v := (nI (gd xs (xs.length - 1)))) (hf _ (by omega)) dX7_add_17 ?_
    refine j_iload_n C rfl 1 rfl dX7_add_18 ?_
    refine j_iconst C (v := (nI 1)) (by decide +kernel) dX7_add_19 ?_
    refine j_ixor C (v := (nI (fv a))) (fx_fv a) dX7_add_20 ?_
    have hfv := fv_lt a ha
    have hl6 := h6 (xs.length - 1) (by omega)
    refine j_icmp_ne C (P := gd xs (xs.length - 1) = fv a) (nI_eq (by omega) (by omega)) (tgt := 37) (by decide) dX7_add_21 (fun ht => ?_) (fun hq => ?_)
    · have hpo : psh xs a = xs ++ [a] := psh_other (fun _ z => ht z)
      have hlen : (psh xs a).length = xs.length + 1 := by rw [hpo, List.length_append]; rfl
      refine j_aload_n C rfl 0 rfl dX7_add_37 ?_
      refine j_getf C (Cn := RX7) (T := TX7) (N := 2) fin_X7_add_RX7 0 rfl rfl 1 (by decide) (by decide +kernel) rfl dX7_add_38 ?_
      refine j_aload_n C rfl 0 rfl dX7_add_41 ?_
      refine j_getf C (Cn := RX7) (T := TX7) (N := 2) fin_X7_add_RX7 0 rfl rfl 0 (by decide) (by decide +kernel) rfl dX7_add_42 ?_
      refine j_alen C 1 0 rfl rfl (v := (nI R)) rfl dX7_add_45 ?_
      refine j_icmp_ge C (P := R ≤ xs.length) (nI_leI (by omega) (by omega)) (tgt := 70) (by decide) dX7_add_46 (fun ht => absurd ht (by omega)) (fun hq => ?_)
      refine j_aload_n C rfl 0 rfl dX7_add_49 ?_
      refine j_getf C (Cn := RX7) (T := TX7) (N := 2) fin_X7_add_RX7 0 rfl rfl 0 (by decide) (by decide +kernel) rfl dX7_add_50 ?_
      refine j_aload_n C rfl 0 rfl dX7_add_53 ?_
      refine j_getf C (Cn := RX7) (T := TX7) (N := 2) fin_X7_add_RX7 0 rfl rfl 1 (by decide) (by decide +kernel) rfl dX7_add_54 ?_
      refine j_iload_n C rfl 1 rfl dX7_add_57 ?_
      refine j_i2b C (v := (nI a)) (fx_byte (by omega)) dX7_add_58 ?_
      refine j_bast C 1 rfl (j := xs.length) (by omega) (by omega) (fx_nar (by omega)) (ws1 := [(r, .inr (9, [.ref lt, .int (nI xs.length)])), (lt, .inl (cy 0, R, .inl (upd f xs.length (nI a))))]) rfl dX7_add_59 ?_
      refine j_aload_n C rfl 0 rfl dX7_add_60 ?_
      refine j_dup C rfl dX7_add_61 ?_
      refine j_getf C (Cn := RX7) (T := TX7) (N := 2) fin_X7_add_RX7 0 rfl rfl 1 (by decide) (by decide +kernel) rfl dX7_add_62 ?_
      refine j_iconst C (v := (nI 1)) (by decide +kernel) dX7_add_65 ?_
      refine j_iadd C (v := (nI (xs.length + 1))) (fx_add xs.length 1) dX7_add_66 ?_
      refine j_putf C (Cn := RX7) (T := TX7) (ty := tyX7) (N := 2) (ws1 := [(r, .inr (9, [.ref lt, .int (nI (xs.length + 1))])), (lt, .inl (cy 0, R, .inl (upd f xs.length (nI a))))]) fin_X7_add_RX7 tyX7_ok nmX7 0 rfl rfl 1 (by decide) (by decide +kernel) rfl rfl rfl (Nat.le_of_ble_eq_true rfl) rfl dX7_add_67 ?_
      exact j_vret C (upd f xs.length (nI a)) (by rw [hpo]; exact Hd_put hf) [0, 1] (by rw [hlen]; rfl) (by decide) (Nat.le_of_ble_eq_true rfl) (Nat.le_of_ble_eq_true rfl) dX7_add_70
    · obtain ⟨hlen, hHd⟩ := psh_last (a := a) (by omega) hq
      refine j_aload_n C rfl 0 rfl dX7_add_24 ?_
      refine j_dup C rfl dX7_add_25 ?_
      refine j_getf C (Cn := RX7) (T := TX7) (N := 2) fin_X7_add_RX7 0 rfl rfl 1 (by decide) (by decide +kernel) rfl dX7_add_26 ?_
      refine j_iconst C (v := (nI 1)) (by decide +kernel) dX7_add_29 ?_
      refine j_isub C (v := (nI (xs.length - 1))) (pk_sub (by omega)) dX7_add_30 ?_
      refine j_putf C (Cn := RX7) (T := TX7) (ty := tyX7) (N := 2) (ws1 := [(r, .inr (9, [.ref lt, .int (nI (xs.length - 1))])), (lt, .inl (cy 0, R, .inl f))]) fin_X7_add_RX7 tyX7_ok nmX7 0 rfl rfl 1 (by decide) (by decide +kernel) rfl rfl rfl (Nat.le_of_ble_eq_true rfl) rfl dX7_add_31 ?_
      refine j_goto C (tgt := 70) (by decide) dX7_add_34 ?_
      exact j_vret C f (hHd f hf) [0, 1] (by rw [hlen]; rfl) (by decide) (Nat.le_of_ble_eq_true rfl) (Nat.le_of_ble_eq_true rfl) dX7_add_70
end
section
/-- going down to a place -/
theorem fx_dnlt {d a : Nat} (hd : d < 2 ^ 31) (ha : a < 2 ^ 31) (h : a ≤ d) : nI d - 1 < nI a ↔ d = a := by
  cases d with
  | zero =>
    have : a = 0 := by omega
    subst this
    exact ⟨fun _ => rfl, fun _ => by decide⟩
  | succ d =>
    rw [nI_pred, nI_ltI (by omega) ha]
    omega
set_option maxRecDepth 100000 in
theorem fin_X7_addRow_RX7 : ∀ w ∈ u_ws RX7 TX7 2, w ∈ wsX7_addRow := by decide +kernel
theorem hdV_X7_add : yX7_add.cls = RX7 ∧ yX7_add.cls ≠ "java/lang/invoke/MethodHandle" ∧ yX7_add.cls ≠ "java/lang/invoke/VarHandle" ∧ (parseMethodDescriptor yX7_add.desc).map (fun d => d.parameters.length) = some 1 := by decide +kernel
set_option maxHeartbeats 4000000 in
set_option maxRecDepth 100000 in
/-- addRow: letter after letter -/
theorem c_X7_addRow {l : Launch} {G : va_G} {cy : Nat → ClassId} {r lt R r2 lt2 R2 : Nat} {xs ys : List Nat} {f g : Nat → Int32} (hR : R < 2 ^ 20) (hR2 : R2 < 2 ^ 20) (hx : xs.length + ys.length ≤ R) (h6 : L6 xs) (hy6 : L6 ys) (hf : Hd f xs) (hg : Hd g ys) (hyR : ys.length ≤ R2)  : Kv l yX7_addRow wsX7_addRow G cy [.ref r, .ref r2] [(r, .inr (9, [.ref lt, .int (nI xs.length)])), (lt, .inl (cy 0, R, .inl f)), (r2, .inr (9, [.ref lt2, .int (nI ys.length)])), (lt2, .inl (cy 0, R2, .inl g))] (fun h : Nat → Int32 => Hd h (act xs ys)) (fun h => [(r, .inr (9, [.ref lt, .int (nI ((act xs ys).length))])), (lt, .inl (cy 0, R, .inl h)), (r2, .inr (9, [.ref lt2, .int (nI ys.length)])), (lt2, .inl (cy 0, R2, .inl g))]) 1 0 0 21 := by
  refine Kv_of (cc := cX7_addRow) (nL := 4) (by decide) rfl (Nat.le_of_ble_eq_true rfl) ?_
  intro p e s m args below meth c A C hnm
  refine j_lo (lo1 := [(0, .ref r), (1, .ref r2)]) [0, 1] rfl ?_
  refine j_aload_n C rfl 1 rfl dX7_addRow_0 ?_
  refine j_getf C (Cn := RX7) (T := TX7) (N := 2) fin_X7_addRow_RX7 2 rfl rfl 1 (by decide) (by decide +kernel) rfl dX7_addRow_1 ?_
  refine j_istore_n C (lo1 := [(2, .int (nI ys.length)), (0, .ref r), (1, .ref r2)]) rfl (by decide) rfl dX7_addRow_4 ?_
  refine j_iconst C (v := (nI 0)) (by decide) dX7_addRow_5 ?_
  refine j_istore_n C (lo1 := [(3, .int (nI 0)), (2, .int (nI ys.length)), (0, .ref r), (1, .ref r2)]) rfl (by decide) rfl dX7_addRow_6 ?_
  refine j_lo (lo1 := [(3, .int (nI 0)), (2, .int (nI ys.length)), (0, .ref r), (1, .ref r2)]) [0, 1, 2, 3] rfl ?_
  have lp : ∀ (d9 : Nat) (i : Nat) (h : Nat → Int32), ys.length - i < d9 → (i ≤ ys.length) → (Hd h (act xs (seg (gd ys) 0 i))) → J p l e (fz_rm 1 0 0 21) s m args below meth c (MQ below (va_Qv (fun h : Nat → Int32 => Hd h (act xs ys)) (fz_B G (fun h => [(r, .inr (9, [.ref lt, .int (nI ((act xs ys).length))])), (lt, .inl (cy 0, R, .inl h)), (r2, .inr (9, [.ref lt2, .int (nI ys.length)])), (lt2, .inl (cy 0, R2, .inl g))]) A) A) args s 0 0 A) G A 4 [(r, .inr (9, [.ref lt, .int (nI ((act xs (seg (gd ys) 0 i)).length))])), (lt, .inl (cy 0, R, .inl h)), (r2, .inr (9, [.ref lt2, .int (nI ys.length)])), (lt2, .inl (cy 0, R2, .inl g))] 0 0 7 [(3, .int (nI i)), (2, .int (nI ys.length)), (0, .ref r), (1, .ref r2)] [] := by
    intro d9
    induction d9 with
    | zero => intro i h hd9; exact absurd hd9 (Nat.not_lt_zero _)
    | succ d9 ih =>
      intro i h hd9 hi hh
      refine j_iload_n C rfl 0 rfl dX7_addRow_7 ?_
      refine j_iload_n C rfl 1 rfl dX7_addRow_8 ?_
      refine j_icmp_ge C (P := ys.length ≤ i) (nI_leI (by omega) (by omega)) (tgt := 28) (by decide) dX7_addRow_9 (fun ht => ?_) (fun hq => ?_)
      · have hi9 : i = ys.length := by omega
        subst hi9
        rw [gd_all] at hh ⊢
        exact j_vret C (h) (hh) [0, 1, 2, 3] rfl (by decide) (Nat.le_of_ble_eq_true rfl) (Nat.le_of_ble_eq_true rfl) dX7_addRow_28
      · have hlen := act_len (seg (gd ys) 0 i) xs
        rw [seg_len] at hlen
        refine j_aload_n C rfl 2 rfl dX7_addRow_12 ?_
        refine j_aload_n C rfl 3 rfl dX7_addRow_13 ?_
        refine j_getf C (Cn := RX7) (T := TX7) (N := 2) fin_X7_addRow_RX7 2 rfl rfl 0 (by decide) (by decide +kernel) rfl dX7_addRow_14 ?_
        refine j_iload_n C rfl 0 rfl dX7_addRow_17 ?_
        refine j_bald C 3 rfl (j := i) (by omega) (by omega) (v := (nI (gd ys i))) (hg i (by omega)) dX7_addRow_18 ?_
        refine j_resv (k1 := 0) (n1 := 0) C (j_runV C (c_X7_add (xs := act xs (seg (gd ys) 0 i)) (a := gd ys i) hR (by omega) (L6_act _ h6 (L6_seg hy6 (by omega))) (hy6 i (by omega)) hh) gX7_addRow_X7_add rfl hdV_X7_add ⟨Nat.le_of_ble_eq_true rfl, Nat.le_of_ble_eq_true rfl⟩ ⟨Nat.le_of_ble_eq_true rfl, Nat.le_of_ble_eq_true rfl⟩ 0 rfl rfl rfl [0, 1] rfl (by decide) rfl (Nat.le_of_ble_eq_true rfl) dX7_addRow_19) (wr := [(r2, .inr (9, [.ref lt2, .int (nI ys.length)])), (lt2, .inl (cy 0, R2, .inl g))]) [2, 3] rfl (by decide) (by decide) (Nat.le_refl _) (Nat.le_refl _) (fun h2 hh2 => ?_)
        refine j_ws (ws1 := [(r, .inr (9, [.ref lt, .int (nI ((psh (act xs (seg (gd ys) 0 i)) (gd ys i)).length))])), (lt, .inl (cy 0, R, .inl h2)), (r2, .inr (9, [.ref lt2, .int (nI ys.length)])), (lt2, .inl (cy 0, R2, .inl g))]) [2, 3, 0, 1] rfl (by decide) ?_
        rw [show psh (act xs (seg (gd ys) 0 i)) (gd ys i) = act xs (seg (gd ys) 0 (i + 1)) by rw [seg_snoc, act_app, Nat.zero_add]; rfl] at hh2 ⊢
        refine j_iinc C (v := (nI (i + 1))) (lo1 := [(3, .int (nI (i + 1))), (2, .int (nI ys.length)), (0, .ref r), (1, .ref r2)]) 0 rfl (fx_inc i 1) (by decide) rfl dX7_addRow_22 ?_
        refine j_goto C (tgt := 7) (by decide) dX7_addRow_25 ?_
        refine j_lo (lo1 := [(3, .int (nI (i + 1))), (2, .int (nI ys.length)), (0, .ref r), (1, .ref r2)]) [0, 1, 2, 3] rfl ?_
        exact ih (i + 1) h2 (by omega) (by omega) hh2
  exact lp (ys.length + 1) 0 f (by omega) (by omega) hf
set_option maxRecDepth 100000 in
theorem fin_X7_addInverse_RX7 : ∀ w ∈ u_ws RX7 TX7 2, w ∈ wsX7_addInverse := by decide +kernel
set_option maxHeartbeats 4000000 in
set_option maxRecDepth 100000 in
/-- addInverse: the inverse, letter after letter -/
theorem c_X7_addInverse {l : Launch} {G : va_G} {cy : Nat → ClassId} {r lt R r2 lt2 R2 : Nat} {xs ys : List Nat} {f g : Nat → Int32} (hR : R < 2 ^ 20) (hR2 : R2 < 2 ^ 20) (hx : xs.length + ys.length ≤ R) (h6 : L6 xs) (hy6 : L6 ys) (hf : Hd f xs) (hg : Hd g ys) (hyR : ys.length ≤ R2)  : Kv l yX7_addInverse wsX7_addInverse G cy [.ref r, .ref r2] [(r, .inr (9, [.ref lt, .int (nI xs.length)])), (lt, .inl (cy 0, R, .inl f)), (r2, .inr (9, [.ref lt2, .int (nI ys.length)])), (lt2, .inl (cy 0, R2, .inl g))] (fun h : Nat → Int32 => Hd h (act xs (iv ys))) (fun h => [(r, .inr (9, [.ref lt, .int (nI ((act xs (iv ys)).length))])), (lt, .inl (cy 0, R, .inl h)), (r2, .inr (9, [.ref lt2, .int (nI ys.length)])), (lt2, .inl (cy 0, R2, .inl g))]) 1 0 0 21 := by
  refine Kv_of (cc := cX7_addInverse) (nL := 3) (by decide) rfl (Nat.le_of_ble_eq_true rfl) ?_
  intro p e s m args below meth c A C hnm
  refine j_lo (lo1 := [(0, .ref r), (1, .ref r2)]) [0, 1] rfl ?_
  refine j_aload_n C rfl 1 rfl dX7_addInverse_0 ?_
  refine j_getf C (Cn := RX7) (T := TX7) (N := 2) fin_X7_addInverse_RX7 2 rfl rfl 1 (by decide) (by decide +kernel) rfl dX7_addInverse_1 ?_
  refine j_iconst C (v := (nI 1)) (by decide) dX7_addInverse_4 ?_
  refine j_isub C (v := (nI ys.length - 1)) (fx_m1 _) dX7_addInverse_5 ?_
  refine j_istore_n C (lo1 := [(2, .int (nI ys.length - 1)), (0, .ref r), (1, .ref r2)]) rfl (by decide) rfl dX7_addInverse_6 ?_
  refine j_lo (lo1 := [(2, .int (nI ys.length - 1)), (0, .ref r), (1, .ref r2)]) [0, 1, 2] rfl ?_
  have lp : ∀ (d9 : Nat) (j : Nat) (h : Nat → Int32), j < d9 → (j ≤ ys.length) → (Hd h (act xs (iv (seg (gd ys) j (ys.length - j))))) → J p l e (fz_rm 1 0 0 21) s m args below meth c (MQ below (va_Qv (fun h : Nat → Int32 => Hd h (act xs (iv ys))) (fz_B G (fun h => [(r, .inr (9, [.ref lt, .int (nI ((act xs (iv ys)).length))])), (lt, .inl (cy 0, R, .inl h)), (r2, .inr (9, [.ref lt2, .int (nI ys.length)])), (lt2, .inl (cy 0, R2, .inl g))]) A) A) args s 0 0 A) G A 3 [(r, .inr (9, [.ref lt, .int (nI ((act xs (iv (seg (gd ys) j (ys.length - j)))).length))])), (lt, .inl (cy 0, R, .inl h)), (r2, .inr (9, [.ref lt2, .int (nI ys.length)])), (lt2, .inl (cy 0, R2, .inl g))] 0 0 7 [(2, .int (nI j - 1)), (0, .ref r), (1, .ref r2)] [] := by
    intro d9
    induction d9 with
    | zero => intro j h hd9; exact absurd hd9 (Nat.not_lt_zero _)
    | succ d9 ih =>
      intro j h hd9 hj hh
      refine j_iload_n C rfl 0 rfl dX7_addInverse_7 ?_
      refine j_if_lt C (P := j = 0) (fx_dn (by omega)) (tgt := 29) (by decide) dX7_addInverse_8 (fun ht => ?_) (fun hq => ?_)
      · subst ht
        rw [Nat.sub_zero, gd_all] at hh ⊢
        exact j_vret C (h) (hh) [0, 1, 2, 3] rfl (by decide) (Nat.le_of_ble_eq_true rfl) (Nat.le_of_ble_eq_true rfl) dX7_addInverse_29
      · obtain ⟨j, rfl⟩ : ∃ z, j = z + 1 := ⟨j - 1, by omega⟩
        have hlen := act_len (iv (seg (gd ys) (j + 1) (ys.length - (j + 1)))) xs
        rw [iv_len, seg_len] at hlen
        refine j_leq (lo1 := [(2, .int (nI j)), (0, .ref r), (1, .ref r2)]) (by rw [nI_pred]) ?_
        refine j_aload_n C rfl 1 rfl dX7_addInverse_11 ?_
        refine j_aload_n C rfl 2 rfl dX7_addInverse_12 ?_
        refine j_getf C (Cn := RX7) (T := TX7) (N := 2) fin_X7_addInverse_RX7 2 rfl rfl 0 (by decide) (by decide +kernel) rfl dX7_addInverse_13 ?_
        refine j_iload_n C rfl 0 rfl dX7_addInverse_16 ?_
        refine j_bald C 3 rfl (j := j) (by omega) (by omega) (v := (nI (gd ys j))) (hg j (by omega)) dX7_addInverse_17 ?_
        refine j_iconst C (v := (nI 1)) (by decide) dX7_addInverse_18 ?_
        refine j_ixor C (v := (nI (fv (gd ys j)))) (fx_fv (gd ys j)) dX7_addInverse_19 ?_
        refine j_resv (k1 := 0) (n1 := 0) C (j_runV C (c_X7_add (xs := act xs (iv (seg (gd ys) (j + 1) (ys.length - (j + 1))))) (a := fv (gd ys j)) hR (by omega) (L6_act _ h6 (L6_iv (L6_seg hy6 (by omega)))) (fv_lt _ (hy6 j (by omega))) hh) gX7_addInverse_X7_add rfl hdV_X7_add ⟨Nat.le_of_ble_eq_true rfl, Nat.le_of_ble_eq_true rfl⟩ ⟨Nat.le_of_ble_eq_true rfl, Nat.le_of_ble_eq_true rfl⟩ 0 rfl rfl rfl [0, 1] rfl (by decide) rfl (Nat.le_of_ble_eq_true rfl) dX7_addInverse_20) (wr := [(r2, .inr (9, [.ref lt2, .int (nI ys.length)])), (lt2, .inl (cy 0, R2, .inl g))]) [2, 3] rfl (by decide) (by decide) (Nat.le_refl _) (Nat.le_refl _) (fun h2 hh2 => ?_)
        refine j_ws (ws1 := [(r, .inr (9, [.ref lt, .int (nI ((psh (act xs (iv (seg (gd ys) (j + 1) (ys.length - (j + 1))))) (fv (gd ys j))).length))])), (lt, .inl (cy 0, R, .inl h2)), (r2, .inr (9, [.ref lt2, .int (nI ys.length)])), (lt2, .inl (cy 0, R2, .inl g))]) [2, 3, 0, 1] rfl (by decide) ?_
        have hst : psh (act xs (iv (seg (gd ys) (j + 1) (ys.length - (j + 1))))) (fv (gd ys j)) = act xs (iv (seg (gd ys) j (ys.length - j))) := by
          rw [show ys.length - j = ys.length - (j + 1) + 1 by omega, seg_cons, iv_cons, act_app]; rfl
        rw [hst] at hh2 ⊢
        refine j_iinc C (v := (nI j - 1)) (lo1 := [(2, .int (nI j - 1)), (0, .ref r), (1, .ref r2)]) 0 rfl (fx_dec j) (by decide) rfl dX7_addInverse_23 ?_
        refine j_goto C (tgt := 7) (by decide) dX7_addInverse_26 ?_
        refine j_lo (lo1 := [(2, .int (nI j - 1)), (0, .ref r), (1, .ref r2)]) [0, 1, 2] rfl ?_
        exact ih j h2 (by omega) (by omega) hh2
  have h0 := lp (ys.length + 1) ys.length f (by omega) (by omega)
  rw [Nat.sub_self, seg_0] at h0
  exact h0 hf
set_option maxRecDepth 100000 in
theorem fin_X7_addPart_RX7 : ∀ w ∈ u_ws RX7 TX7 2, w ∈ wsX7_addPart := by decide +kernel
set_option maxHeartbeats 4000000 in
set_option maxRecDepth 100000 in
/-- addPart: the letters from a up to b -/
theorem c_X7_addPart {l : Launch} {G : va_G} {cy : Nat → ClassId} {r lt R r2 lt2 R2 : Nat} {xs ys : List Nat} {f g : Nat → Int32} (hR : R < 2 ^ 20) (hR2 : R2 < 2 ^ 20) {a b : Nat} (hx : xs.length + ys.length ≤ R) (hab : a ≤ b ∧ b ≤ ys.length) (h6 : L6 xs) (hy6 : L6 ys) (hf : Hd f xs) (hg : Hd g ys) (hyR : ys.length ≤ R2)  : Kv l yX7_addPart wsX7_addPart G cy [.ref r, .ref r2, .int (nI a), .int (nI b)] [(r, .inr (9, [.ref lt, .int (nI xs.length)])), (lt, .inl (cy 0, R, .inl f)), (r2, .inr (9, [.ref lt2, .int (nI ys.length)])), (lt2, .inl (cy 0, R2, .inl g))] (fun h : Nat → Int32 => Hd h (act xs (seg (gd ys) a (b - a)))) (fun h => [(r, .inr (9, [.ref lt, .int (nI ((act xs (seg (gd ys) a (b - a))).length))])), (lt, .inl (cy 0, R, .inl h)), (r2, .inr (9, [.ref lt2, .int (nI ys.length)])), (lt2, .inl (cy 0, R2, .inl g))]) 1 0 0 21 := by
  refine Kv_of (cc := cX7_addPart) (nL := 6) (by decide) rfl (Nat.le_of_ble_eq_true rfl) ?_
  intro p e s m args below meth c A C hnm
  refine j_lo (lo1 := [(0, .ref r), (1, .ref r2), (2, .int (nI a)), (3, .int (nI b))]) [0, 1, 2, 3] rfl ?_
  have lp : ∀ (d9 : Nat) (i : Nat) (h : Nat → Int32), b - i < d9 → (a ≤ i ∧ i ≤ b) → (Hd h (act xs (seg (gd ys) a (i - a)))) → J p l e (fz_rm 1 0 0 21) s m args below meth c (MQ below (va_Qv (fun h : Nat → Int32 => Hd h (act xs (seg (gd ys) a (b - a)))) (fz_B G (fun h => [(r, .inr (9, [.ref lt, .int (nI ((act xs (seg (gd ys) a (b - a))).length))])), (lt, .inl (cy 0, R, .inl h)), (r2, .inr (9, [.ref lt2, .int (nI ys.length)])), (lt2, .inl (cy 0, R2, .inl g))]) A) A) args s 0 0 A) G A 6 [(r, .inr (9, [.ref lt, .int (nI ((act xs (seg (gd ys) a (i - a))).length))])), (lt, .inl (cy 0, R, .inl h)), (r2, .inr (9, [.ref lt2, .int (nI ys.length)])), (lt2, .inl (cy 0, R2, .inl g))] 0 0 15 [(5, .int (nI i)), (3, .int (nI b)), (0, .ref r), (1, .ref r2)] [] := by
    intro d9
    induction d9 with
    | zero => intro i h hd9; exact absurd hd9 (Nat.not_lt_zero _)
    | succ d9 ih =>
      intro i h hd9 hi hh
      refine j_iload C 0 rfl dX7_addPart_15 ?_
      refine j_iload_n C rfl 1 rfl dX7_addPart_17 ?_
      refine j_icmp_ge C (P := b ≤ i) (nI_leI (by omega) (by omega)) (tgt := 47) (by decide) dX7_addPart_18 (fun ht => ?_) (fun hq => ?_)
      · have hi9 : i = b := by omega
        subst hi9
        exact j_vret C (h) (hh) [0, 1, 2, 3] rfl (by decide) (Nat.le_of_ble_eq_true rfl) (Nat.le_of_ble_eq_true rfl) dX7_addPart_47
      · refine j_iload C 0 rfl dX7_addPart_21 ?_
        refine j_aload_n C rfl 3 rfl dX7_addPart_23 ?_
        refine j_getf C (Cn := RX7) (T := TX7) (N := 2) fin_X7_addPart_RX7 2 rfl rfl 1 (by decide) (by decide +kernel) rfl dX7_addPart_24 ?_
        refine j_icmp_ge C (P := ys.length ≤ i) (nI_leI (by omega) (by omega)) (tgt := 47) (by decide) dX7_addPart_27 (fun ht => absurd ht (by omega)) (fun hq => ?_)
        have hlen := act_len (seg (gd ys) a (i - a)) xs
        rw [seg_len] at hlen
        refine j_aload_n C rfl 2 rfl dX7_addPart_30 ?_
        refine j_aload_n C rfl 3 rfl dX7_addPart_31 ?_
        refine j_getf C (Cn := RX7) (T := TX7) (N := 2) fin_X7_addPart_RX7 2 rfl rfl 0 (by decide) (by decide +kernel) rfl dX7_addPart_32 ?_
        refine j_iload C 0 rfl dX7_addPart_35 ?_
        refine j_bald C 3 rfl (j := i) (by omega) (by omega) (v := (nI (gd ys i))) (hg i (by omega)) dX7_addPart_37 ?_
        refine j_resv (k1 := 0) (n1 := 0) C (j_runV C (c_X7_add (xs := act xs (seg (gd ys) a (i - a))) (a := gd ys i) hR (by omega) (L6_act _ h6 (L6_seg hy6 (by omega))) (hy6 i (by omega)) hh) gX7_addPart_X7_add rfl hdV_X7_add ⟨Nat.le_of_ble_eq_true rfl, Nat.le_of_ble_eq_true rfl⟩ ⟨Nat.le_of_ble_eq_true rfl, Nat.le_of_ble_eq_true rfl⟩ 0 rfl rfl rfl [0, 1] rfl (by decide) rfl (Nat.le_of_ble_eq_true rfl) dX7_addPart_38) (wr := [(r2, .inr (9, [.ref lt2, .int (nI ys.length)])), (lt2, .inl (cy 0, R2, .inl g))]) [2, 3] rfl (by decide) (by decide) (Nat.le_refl _) (Nat.le_refl _) (fun h2 hh2 => ?_)
        refine j_ws (ws1 := [(r, .inr (9, [.ref lt, .int (nI ((psh (act xs (seg (gd ys) a (i - a))) (gd ys i)).length))])), (lt, .inl (cy 0, R, .inl h2)), (r2, .inr (9, [.ref lt2, .int (nI ys.length)])), (lt2, .inl (cy 0, R2, .inl g))]) [2, 3, 0, 1] rfl (by decide) ?_
        have hst : psh (act xs (seg (gd ys) a (i - a))) (gd ys i) = act xs (seg (gd ys) a (i + 1 - a)) := by
          rw [show i + 1 - a = i - a + 1 by omega, seg_snoc, act_app, show a + (i - a) = i by omega]; rfl
        rw [hst] at hh2 ⊢
        refine j_iinc C (v := (nI (i + 1))) (lo1 := [(5, .int (nI (i + 1))), (3, .int (nI b)), (0, .ref r), (1, .ref r2)]) 0 rfl (fx_inc i 1) (by decide) rfl dX7_addPart_41 ?_
        refine j_goto C (tgt := 15) (by decide) dX7_addPart_44 ?_
        refine j_lo (lo1 := [(5, .int (nI (i + 1))), (3, .int (nI b)), (0, .ref r), (1, .ref r2)]) [0, 1, 2, 3] rfl ?_
        exact ih (i + 1) h2 (by omega) ⟨by omega, by omega⟩ hh2
  have h0 := lp (b + 1) a f (by omega) ⟨by omega, by omega⟩
  rw [Nat.sub_self, seg_0] at h0
  refine j_iload_n C rfl 2 rfl dX7_addPart_0 ?_
  refine j_if_le C (P := a = 0) (fx_le0 (by omega)) (tgt := 8) (by decide) dX7_addPart_1 (fun ht => ?_) (fun hq => ?_)
  · subst ht
    refine j_iconst C (v := (nI 0)) (by decide) dX7_addPart_8 ?_
    refine j_istore C (lo1 := [(4, .int (nI 0)), (0, .ref r), (1, .ref r2), (2, .int (nI 0)), (3, .int (nI b))]) (by decide) rfl dX7_addPart_9 ?_
    refine j_iload C 0 rfl dX7_addPart_11 ?_
    refine j_istore C (lo1 := [(5, .int (nI 0)), (4, .int (nI 0)), (0, .ref r), (1, .ref r2), (2, .int (nI 0)), (3, .int (nI b))]) (by decide) rfl dX7_addPart_13 ?_
    refine j_lo (lo1 := [(5, .int (nI 0)), (3, .int (nI b)), (0, .ref r), (1, .ref r2)]) [0, 5, 2, 3] rfl ?_
    exact h0 hf
  · refine j_iload_n C rfl 2 rfl dX7_addPart_4 ?_
    refine j_goto C (tgt := 9) (by decide) dX7_addPart_5 ?_
    refine j_istore C (lo1 := [(4, .int (nI a)), (0, .ref r), (1, .ref r2), (2, .int (nI a)), (3, .int (nI b))]) (by decide) rfl dX7_addPart_9 ?_
    refine j_iload C 0 rfl dX7_addPart_11 ?_
    refine j_istore C (lo1 := [(5, .int (nI a)), (4, .int (nI a)), (0, .ref r), (1, .ref r2), (2, .int (nI a)), (3, .int (nI b))]) (by decide) rfl dX7_addPart_13 ?_
    refine j_lo (lo1 := [(5, .int (nI a)), (3, .int (nI b)), (0, .ref r), (1, .ref r2)]) [0, 5, 2, 3] rfl ?_
    exact h0 hf
set_option maxRecDepth 100000 in
theorem fin_X7_addPartInverse_RX7 : ∀ w ∈ u_ws RX7 TX7 2, w ∈ wsX7_addPartInverse := by decide +kernel
set_option maxHeartbeats 4000000 in
set_option maxRecDepth 100000 in
/-- addPartInverse: those letters, inverted -/
theorem c_X7_addPartInverse {l : Launch} {G : va_G} {cy : Nat → ClassId} {r lt R r2 lt2 R2 : Nat} {xs ys : List Nat} {f g : Nat → Int32} (hR : R < 2 ^ 20) (hR2 : R2 < 2 ^ 20) {a b : Nat} (hx : xs.length + ys.length ≤ R) (hab : a ≤ b ∧ b ≤ ys.length) (h6 : L6 xs) (hy6 : L6 ys) (hf : Hd f xs) (hg : Hd g ys) (hyR : ys.length ≤ R2)  : Kv l yX7_addPartInverse wsX7_addPartInverse G cy [.ref r, .ref r2, .int (nI a), .int (nI b)] [(r, .inr (9, [.ref lt, .int (nI xs.length)])), (lt, .inl (cy 0, R, .inl f)), (r2, .inr (9, [.ref lt2, .int (nI ys.length)])), (lt2, .inl (cy 0, R2, .inl g))] (fun h : Nat → Int32 => Hd h (act xs (iv (seg (gd ys) a (b - a))))) (fun h => [(r, .inr (9, [.ref lt, .int (nI ((act xs (iv (seg (gd ys) a (b - a)))).length))])), (lt, .inl (cy 0, R, .inl h)), (r2, .inr (9, [.ref lt2, .int (nI ys.length)])), (lt2, .inl (cy 0, R2, .inl g))]) 1 0 0 21 := by
  refine Kv_of (cc := cX7_addPartInverse) (nL := 6) (by decide) rfl (Nat.le_of_ble_eq_true rfl) ?_
  intro p e s m args below meth c A C hnm
  refine j_lo (lo1 := [(0, .ref r), (1, .ref r2), (2, .int (nI a)), (3, .int (nI b))]) [0, 1, 2, 3] rfl ?_
  have lp : ∀ (d9 : Nat) (j : Nat) (h : Nat → Int32), j - a < d9 → (a ≤ j ∧ j ≤ b) → (Hd h (act xs (iv (seg (gd ys) j (b - j))))) → J p l e (fz_rm 1 0 0 21) s m args below meth c (MQ below (va_Qv (fun h : Nat → Int32 => Hd h (act xs (iv (seg (gd ys) a (b - a))))) (fz_B G (fun h => [(r, .inr (9, [.ref lt, .int (nI ((act xs (iv (seg (gd ys) a (b - a)))).length))])), (lt, .inl (cy 0, R, .inl h)), (r2, .inr (9, [.ref lt2, .int (nI ys.length)])), (lt2, .inl (cy 0, R2, .inl g))]) A) A) args s 0 0 A) G A 6 [(r, .inr (9, [.ref lt, .int (nI ((act xs (iv (seg (gd ys) j (b - j)))).length))])), (lt, .inl (cy 0, R, .inl h)), (r2, .inr (9, [.ref lt2, .int (nI ys.length)])), (lt2, .inl (cy 0, R2, .inl g))] 0 0 24 [(5, .int (nI j - 1)), (2, .int (nI a)), (0, .ref r), (1, .ref r2)] [] := by
    intro d9
    induction d9 with
    | zero => intro j h hd9; exact absurd hd9 (Nat.not_lt_zero _)
    | succ d9 ih =>
      intro j h hd9 hj hh
      refine j_iload C 0 rfl dX7_addPartInverse_24 ?_
      refine j_iload_n C rfl 1 rfl dX7_addPartInverse_26 ?_
      refine j_icmp_lt C (P := j = a) (fx_dnlt (by omega) (by omega) hj.1) (tgt := 54) (by decide) dX7_addPartInverse_27 (fun ht => ?_) (fun hq => ?_)
      · subst ht
        exact j_vret C (h) (hh) [0, 1, 2, 3] rfl (by decide) (Nat.le_of_ble_eq_true rfl) (Nat.le_of_ble_eq_true rfl) dX7_addPartInverse_54
      · refine j_iload C 0 rfl dX7_addPartInverse_30 ?_
        refine j_if_lt C (P := j = 0) (fx_dn (by omega)) (tgt := 54) (by decide) dX7_addPartInverse_32 (fun ht => absurd ht (by omega)) (fun hq => ?_)
        obtain ⟨j, rfl⟩ : ∃ z, j = z + 1 := ⟨j - 1, by omega⟩
        have hlen := act_len (iv (seg (gd ys) (j + 1) (b - (j + 1)))) xs
        rw [iv_len, seg_len] at hlen
        refine j_leq (lo1 := [(5, .int (nI j)), (2, .int (nI a)), (0, .ref r), (1, .ref r2)]) (by rw [nI_pred]) ?_
        refine j_aload_n C rfl 2 rfl dX7_addPartInverse_35 ?_
        refine j_aload_n C rfl 3 rfl dX7_addPartInverse_36 ?_
        refine j_getf C (Cn := RX7) (T := TX7) (N := 2) fin_X7_addPartInverse_RX7 2 rfl rfl 0 (by decide) (by decide +kernel) rfl dX7_addPartInverse_37 ?_
        refine j_iload C 0 rfl dX7_addPartInverse_40 ?_
        refine j_bald C 3 rfl (j := j) (by omega) (by omega) (v := (nI (gd ys j))) (hg j (by omega)) dX7_addPartInverse_42 ?_
        refine j_iconst C (v := (nI 1)) (by decide) dX7_addPartInverse_43 ?_
        refine j_ixor C (v := (nI (fv (gd ys j)))) (fx_fv (gd ys j)) dX7_addPartInverse_44 ?_
        refine j_resv (k1 := 0) (n1 := 0) C (j_runV C (c_X7_add (xs := act xs (iv (seg (gd ys) (j + 1) (b - (j + 1))))) (a := fv (gd ys j)) hR (by omega) (L6_act _ h6 (L6_iv (L6_seg hy6 (by omega)))) (fv_lt _ (hy6 j (by omega))) hh) gX7_addPartInverse_X7_add rfl hdV_X7_add ⟨Nat.le_of_ble_eq_true rfl, Nat.le_of_ble_eq_true rfl⟩ ⟨Nat.le_of_ble_eq_true rfl, Nat.le_of_ble_eq_true rfl⟩ 0 rfl rfl rfl [0, 1] rfl (by decide) rfl (Nat.le_of_ble_eq_true rfl) dX7_addPartInverse_45) (wr := [(r2, .inr (9, [.ref lt2, .int (nI ys.length)])), (lt2, .inl (cy 0, R2, .inl g))]) [2, 3] rfl (by decide) (by decide) (Nat.le_refl _) (Nat.le_refl _) (fun h2 hh2 => ?_)
        refine j_ws (ws1 := [(r, .inr (9, [.ref lt, .int (nI ((psh (act xs (iv (seg (gd ys) (j + 1) (b - (j + 1))))) (fv (gd ys j))).length))])), (lt, .inl (cy 0, R, .inl h2)), (r2, .inr (9, [.ref lt2, .int (nI ys.length)])), (lt2, .inl (cy 0, R2, .inl g))]) [2, 3, 0, 1] rfl (by decide) ?_
        have hst : psh (act xs (iv (seg (gd ys) (j + 1) (b - (j + 1))))) (fv (gd ys j)) = act xs (iv (seg (gd ys) j (b - j))) := by
          rw [show b - j = b - (j + 1) + 1 by omega, seg_cons, iv_cons, act_app]; rfl
        rw [hst] at hh2 ⊢
        refine j_iinc C (v := (nI j - 1)) (lo1 := [(5, .int (nI j - 1)), (2, .int (nI a)), (0, .ref r), (1, .ref r2)]) 0 rfl (fx_dec j) (by decide) rfl dX7_addPartInverse_48 ?_
        refine j_goto C (tgt := 24) (by decide) dX7_addPartInverse_51 ?_
        refine j_lo (lo1 := [(5, .int (nI j - 1)), (2, .int (nI a)), (0, .ref r), (1, .ref r2)]) [0, 1, 2, 3] rfl ?_
        exact ih j h2 (by omega) ⟨by omega, by omega⟩ hh2
  have h0 := lp (b + 1) b f (by omega) ⟨by omega, by omega⟩
  rw [Nat.sub_self, seg_0] at h0
  refine j_iload_n C rfl 3 rfl dX7_addPartInverse_0 ?_
  refine j_aload_n C rfl 1 rfl dX7_addPartInverse_1 ?_
  refine j_getf C (Cn := RX7) (T := TX7) (N := 2) fin_X7_addPartInverse_RX7 2 rfl rfl 1 (by decide) (by decide +kernel) rfl dX7_addPartInverse_2 ?_
  refine j_icmp_ge C (P := ys.length ≤ b) (nI_leI (by omega) (by omega)) (tgt := 12) (by decide) dX7_addPartInverse_5 (fun ht => ?_) (fun hq => ?_)
  · have hb9 : b = ys.length := by omega
    subst hb9
    refine j_aload_n C rfl 1 rfl dX7_addPartInverse_12 ?_
    refine j_getf C (Cn := RX7) (T := TX7) (N := 2) fin_X7_addPartInverse_RX7 2 rfl rfl 1 (by decide) (by decide +kernel) rfl dX7_addPartInverse_13 ?_
    refine j_iconst C (v := (nI 1)) (by decide) dX7_addPartInverse_16 ?_
    refine j_isub C (v := (nI ys.length - 1)) (fx_m1 _) dX7_addPartInverse_17 ?_
    refine j_istore C (lo1 := [(4, .int (nI ys.length - 1)), (0, .ref r), (1, .ref r2), (2, .int (nI a)), (3, .int (nI ys.length))]) (by decide) rfl dX7_addPartInverse_18 ?_
    refine j_iload C 0 rfl dX7_addPartInverse_20 ?_
    refine j_istore C (lo1 := [(5, .int (nI ys.length - 1)), (4, .int (nI ys.length - 1)), (0, .ref r), (1, .ref r2), (2, .int (nI a)), (3, .int (nI ys.length))]) (by decide) rfl dX7_addPartInverse_22 ?_
    refine j_lo (lo1 := [(5, .int (nI ys.length - 1)), (2, .int (nI a)), (0, .ref r), (1, .ref r2)]) [0, 4, 2, 3] rfl ?_
    exact h0 hf
  · refine j_iload_n C rfl 3 rfl dX7_addPartInverse_8 ?_
    refine j_goto C (tgt := 16) (by decide) dX7_addPartInverse_9 ?_
    refine j_iconst C (v := (nI 1)) (by decide) dX7_addPartInverse_16 ?_
    refine j_isub C (v := (nI b - 1)) (fx_m1 _) dX7_addPartInverse_17 ?_
    refine j_istore C (lo1 := [(4, .int (nI b - 1)), (0, .ref r), (1, .ref r2), (2, .int (nI a)), (3, .int (nI b))]) (by decide) rfl dX7_addPartInverse_18 ?_
    refine j_iload C 0 rfl dX7_addPartInverse_20 ?_
    refine j_istore C (lo1 := [(5, .int (nI b - 1)), (4, .int (nI b - 1)), (0, .ref r), (1, .ref r2), (2, .int (nI a)), (3, .int (nI b))]) (by decide) rfl dX7_addPartInverse_22 ?_
    refine j_lo (lo1 := [(5, .int (nI b - 1)), (2, .int (nI a)), (0, .ref r), (1, .ref r2)]) [0, 4, 2, 3] rfl ?_
    exact h0 hf
set_option maxRecDepth 100000 in
theorem fin_X7_set_RX7 : ∀ w ∈ u_ws RX7 TX7 2, w ∈ wsX7_set := by decide +kernel
set_option maxHeartbeats 4000000 in
set_option maxRecDepth 100000 in
/-- set: a copy -/
theorem c_X7_set {l : Launch} {G : va_G} {cy : Nat → ClassId} {r lt R r2 lt2 R2 : Nat} {ys : List Nat} {sz : Int32} {f g : Nat → Int32} (hR : R < 2 ^ 20) (hR2 : R2 < 2 ^ 20) (hx : ys.length ≤ R) (hy6 : L6 ys) (hg : Hd g ys) (hyR : ys.length ≤ R2) : Kv l yX7_set wsX7_set G cy [.ref r, .ref r2] [(r, .inr (9, [.ref lt, .int sz])), (lt, .inl (cy 0, R, .inl f)), (r2, .inr (9, [.ref lt2, .int (nI ys.length)])), (lt2, .inl (cy 0, R2, .inl g))] (fun h : Nat → Int32 => Hd h ys) (fun h => [(r, .inr (9, [.ref lt, .int (nI ys.length)])), (lt, .inl (cy 0, R, .inl h)), (r2, .inr (9, [.ref lt2, .int (nI ys.length)])), (lt2, .inl (cy 0, R2, .inl g))]) 0 0 0 0 := by
  refine Kv_of (cc := cX7_set) (nL := 3) (by decide) rfl (Nat.le_of_ble_eq_true rfl) ?_
  intro p e s m args below meth c A C hnm
  refine j_lo (lo1 := [(0, .ref r), (1, .ref r2)]) [0, 1] rfl ?_
  refine j_aload_n C rfl 0 rfl dX7_set_0 ?_
  refine j_aload_n C rfl 1 rfl dX7_set_1 ?_
  refine j_getf C (Cn := RX7) (T := TX7) (N := 2) fin_X7_set_RX7 2 rfl rfl 1 (by decide) (by decide +kernel) rfl dX7_set_2 ?_
  refine j_aload_n C rfl 0 rfl dX7_set_5 ?_
  refine j_getf C (Cn := RX7) (T := TX7) (N := 2) fin_X7_set_RX7 0 rfl rfl 0 (by decide) (by decide +kernel) rfl dX7_set_6 ?_
  refine j_alen C 1 0 rfl rfl (v := (nI R)) rfl dX7_set_9 ?_
  refine j_icmp_ge C (P := R ≤ ys.length) (nI_leI (by omega) (by omega)) (tgt := 20) (by decide) dX7_set_10 (fun ht => ?_) (fun hq => ?_)
  · have hR9 : R = ys.length := by omega
    have lp : ∀ (d9 : Nat) (i : Nat) (h : Nat → Int32), ys.length - i < d9 → (i ≤ ys.length) → (∀ z, z < i → h z = nI (gd ys z)) → J p l e (fz_rm 0 0 0 0) s m args below meth c (MQ below (va_Qv (fun h : Nat → Int32 => Hd h ys) (fz_B G (fun h => [(r, .inr (9, [.ref lt, .int (nI ys.length)])), (lt, .inl (cy 0, R, .inl h)), (r2, .inr (9, [.ref lt2, .int (nI ys.length)])), (lt2, .inl (cy 0, R2, .inl g))]) A) A) args s 0 0 A) G A 3 [(r, .inr (9, [.ref lt, .int (nI ys.length)])), (lt, .inl (cy 0, R, .inl h)), (r2, .inr (9, [.ref lt2, .int (nI ys.length)])), (lt2, .inl (cy 0, R2, .inl g))] 0 0 30 [(2, .int (nI i)), (0, .ref r), (1, .ref r2)] [] := by
      intro d9
      induction d9 with
      | zero => intro i h hd9; exact absurd hd9 (Nat.not_lt_zero _)
      | succ d9 ih =>
        intro i h hd9 hi hh
        refine j_iload_n C rfl 0 rfl dX7_set_30 ?_
        refine j_aload_n C rfl 1 rfl dX7_set_31 ?_
        refine j_getf C (Cn := RX7) (T := TX7) (N := 2) fin_X7_set_RX7 0 rfl rfl 1 (by decide) (by decide +kernel) rfl dX7_set_32 ?_
        refine j_icmp_ge C (P := ys.length ≤ i) (nI_leI (by omega) (by omega)) (tgt := 56) (by decide) dX7_set_35 (fun ht => ?_) (fun hq => ?_)
        · exact j_vret C (h) (fun i9 hi9 => hh i9 (by omega)) [0, 1, 2, 3] rfl (by decide) (Nat.le_of_ble_eq_true rfl) (Nat.le_of_ble_eq_true rfl) dX7_set_56
        · refine j_aload_n C rfl 1 rfl dX7_set_38 ?_
          refine j_getf C (Cn := RX7) (T := TX7) (N := 2) fin_X7_set_RX7 0 rfl rfl 0 (by decide) (by decide +kernel) rfl dX7_set_39 ?_
          refine j_iload_n C rfl 0 rfl dX7_set_42 ?_
          refine j_aload_n C rfl 2 rfl dX7_set_43 ?_
          refine j_getf C (Cn := RX7) (T := TX7) (N := 2) fin_X7_set_RX7 2 rfl rfl 0 (by decide) (by decide +kernel) rfl dX7_set_44 ?_
          refine j_iload_n C rfl 0 rfl dX7_set_47 ?_
          refine j_bald C 3 rfl (j := i) (by omega) (by omega) (v := (nI (gd ys i))) (hg i (by omega)) dX7_set_48 ?_
          have hl6 := hy6 i (by omega)
          refine j_bast C 1 rfl (j := i) (by omega) (by omega) (fx_nar (by omega)) (ws1 := [(r, .inr (9, [.ref lt, .int (nI ys.length)])), (lt, .inl (cy 0, R, .inl (upd h i (nI (gd ys i))))), (r2, .inr (9, [.ref lt2, .int (nI ys.length)])), (lt2, .inl (cy 0, R2, .inl g))]) rfl dX7_set_49 ?_
          refine j_iinc C (v := (nI (i + 1))) (lo1 := [(2, .int (nI (i + 1))), (0, .ref r), (1, .ref r2)]) 0 rfl (fx_inc i 1) (by decide) rfl dX7_set_50 ?_
          refine j_goto C (tgt := 30) (by decide) dX7_set_53 ?_
          refine j_lo (lo1 := [(2, .int (nI (i + 1))), (0, .ref r), (1, .ref r2)]) [0, 1, 2] rfl ?_
          refine ih (i + 1) _ (by omega) (by omega) (fun z hz => ?_)
          rcases Nat.lt_or_ge z i with q9 | q9
          · rw [pk_un (by omega)]; exact hh z q9
          · rw [show z = i by omega, pk_us]
    have h0 := lp (ys.length + 1) 0 f (by omega) (by omega) (fun z hz => absurd hz (Nat.not_lt_zero _))
    refine j_aload_n C rfl 0 rfl dX7_set_20 ?_
    refine j_getf C (Cn := RX7) (T := TX7) (N := 2) fin_X7_set_RX7 0 rfl rfl 0 (by decide) (by decide +kernel) rfl dX7_set_21 ?_
    refine j_alen C 1 0 rfl rfl (v := (nI R)) rfl dX7_set_24 ?_
    refine j_top (y := (nI ys.length)) (by rw [hR9]) ?_
    refine j_putf C (Cn := RX7) (T := TX7) (ty := tyX7) (N := 2) (ws1 := [(r, .inr (9, [.ref lt, .int (nI ys.length)])), (lt, .inl (cy 0, R, .inl f)), (r2, .inr (9, [.ref lt2, .int (nI ys.length)])), (lt2, .inl (cy 0, R2, .inl g))]) fin_X7_set_RX7 tyX7_ok nmX7 0 rfl rfl 1 (by decide) (by decide +kernel) rfl rfl rfl (Nat.le_of_ble_eq_true rfl) rfl dX7_set_25 ?_
    refine j_iconst C (v := (nI 0)) (by decide) dX7_set_28 ?_
    refine j_istore_n C (lo1 := [(2, .int (nI 0)), (0, .ref r), (1, .ref r2)]) rfl (by decide) rfl dX7_set_29 ?_
    refine j_lo (lo1 := [(2, .int (nI 0)), (0, .ref r), (1, .ref r2)]) [0, 1, 2] rfl ?_
    exact h0
  · have lp : ∀ (d9 : Nat) (i : Nat) (h : Nat → Int32), ys.length - i < d9 → (i ≤ ys.length) → (∀ z, z < i → h z = nI (gd ys z)) → J p l e (fz_rm 0 0 0 0) s m args below meth c (MQ below (va_Qv (fun h : Nat → Int32 => Hd h ys) (fz_B G (fun h => [(r, .inr (9, [.ref lt, .int (nI ys.length)])), (lt, .inl (cy 0, R, .inl h)), (r2, .inr (9, [.ref lt2, .int (nI ys.length)])), (lt2, .inl (cy 0, R2, .inl g))]) A) A) args s 0 0 A) G A 3 [(r, .inr (9, [.ref lt, .int (nI ys.length)])), (lt, .inl (cy 0, R, .inl h)), (r2, .inr (9, [.ref lt2, .int (nI ys.length)])), (lt2, .inl (cy 0, R2, .inl g))] 0 0 30 [(2, .int (nI i)), (0, .ref r), (1, .ref r2)] [] := by
      intro d9
      induction d9 with
      | zero => intro i h hd9; exact absurd hd9 (Nat.not_lt_zero _)
      | succ d9 ih =>
        intro i h hd9 hi hh
        refine j_iload_n C rfl 0 rfl dX7_set_30 ?_
        refine j_aload_n C rfl 1 rfl dX7_set_31 ?_
        refine j_getf C (Cn := RX7) (T := TX7) (N := 2) fin_X7_set_RX7 0 rfl rfl 1 (by decide) (by decide +kernel) rfl dX7_set_32 ?_
        refine j_icmp_ge C (P := ys.length ≤ i) (nI_leI (by omega) (by omega)) (tgt := 56) (by decide) dX7_set_35 (fun ht => ?_) (fun hq => ?_)
        · exact j_vret C (h) (fun i9 hi9 => hh i9 (by omega)) [0, 1, 2, 3] rfl (by decide) (Nat.le_of_ble_eq_true rfl) (Nat.le_of_ble_eq_true rfl) dX7_set_56
        · refine j_aload_n C rfl 1 rfl dX7_set_38 ?_
          refine j_getf C (Cn := RX7) (T := TX7) (N := 2) fin_X7_set_RX7 0 rfl rfl 0 (by decide) (by decide +kernel) rfl dX7_set_39 ?_
          refine j_iload_n C rfl 0 rfl dX7_set_42 ?_
          refine j_aload_n C rfl 2 rfl dX7_set_43 ?_
          refine j_getf C (Cn := RX7) (T := TX7) (N := 2) fin_X7_set_RX7 2 rfl rfl 0 (by decide) (by decide +kernel) rfl dX7_set_44 ?_
          refine j_iload_n C rfl 0 rfl dX7_set_47 ?_
          refine j_bald C 3 rfl (j := i) (by omega) (by omega) (v := (nI (gd ys i))) (hg i (by omega)) dX7_set_48 ?_
          have hl6 := hy6 i (by omega)
          refine j_bast C 1 rfl (j := i) (by omega) (by omega) (fx_nar (by omega)) (ws1 := [(r, .inr (9, [.ref lt, .int (nI ys.length)])), (lt, .inl (cy 0, R, .inl (upd h i (nI (gd ys i))))), (r2, .inr (9, [.ref lt2, .int (nI ys.length)])), (lt2, .inl (cy 0, R2, .inl g))]) rfl dX7_set_49 ?_
          refine j_iinc C (v := (nI (i + 1))) (lo1 := [(2, .int (nI (i + 1))), (0, .ref r), (1, .ref r2)]) 0 rfl (fx_inc i 1) (by decide) rfl dX7_set_50 ?_
          refine j_goto C (tgt := 30) (by decide) dX7_set_53 ?_
          refine j_lo (lo1 := [(2, .int (nI (i + 1))), (0, .ref r), (1, .ref r2)]) [0, 1, 2] rfl ?_
          refine ih (i + 1) _ (by omega) (by omega) (fun z hz => ?_)
          rcases Nat.lt_or_ge z i with q9 | q9
          · rw [pk_un (by omega)]; exact hh z q9
          · rw [show z = i by omega, pk_us]
    have h0 := lp (ys.length + 1) 0 f (by omega) (by omega) (fun z hz => absurd hz (Nat.not_lt_zero _))
    refine j_aload_n C rfl 1 rfl dX7_set_13 ?_
    refine j_getf C (Cn := RX7) (T := TX7) (N := 2) fin_X7_set_RX7 2 rfl rfl 1 (by decide) (by decide +kernel) rfl dX7_set_14 ?_
    refine j_goto C (tgt := 25) (by decide) dX7_set_17 ?_
    refine j_putf C (Cn := RX7) (T := TX7) (ty := tyX7) (N := 2) (ws1 := [(r, .inr (9, [.ref lt, .int (nI ys.length)])), (lt, .inl (cy 0, R, .inl f)), (r2, .inr (9, [.ref lt2, .int (nI ys.length)])), (lt2, .inl (cy 0, R2, .inl g))]) fin_X7_set_RX7 tyX7_ok nmX7 0 rfl rfl 1 (by decide) (by decide +kernel) rfl rfl rfl (Nat.le_of_ble_eq_true rfl) rfl dX7_set_25 ?_
    refine j_iconst C (v := (nI 0)) (by decide) dX7_set_28 ?_
    refine j_istore_n C (lo1 := [(2, .int (nI 0)), (0, .ref r), (1, .ref r2)]) rfl (by decide) rfl dX7_set_29 ?_
    refine j_lo (lo1 := [(2, .int (nI 0)), (0, .ref r), (1, .ref r2)]) [0, 1, 2] rfl ?_
    exact h0
end
section
theorem lx_step {xs ys : List Nat} {i : Nat} (h : i < xs.length) (h2 : i < ys.length) : lx (xs.drop i) (ys.drop i) = if gd xs i < gd ys i then -1 else if gd ys i < gd xs i then 1 else lx (xs.drop (i + 1)) (ys.drop (i + 1)) := by
  have e1 : xs.drop i = gd xs i :: xs.drop (i + 1) := by
    rw [List.drop_eq_getElem_cons h]
    congr 1
    exact (gd_some (List.getElem?_eq_getElem h)).symm
  have e2 : ys.drop i = gd ys i :: ys.drop (i + 1) := by
    rw [List.drop_eq_getElem_cons h2]
    congr 1
    exact (gd_some (List.getElem?_eq_getElem h2)).symm
  rw [e1, e2]; rfl
theorem lx_end {xs ys : List Nat} {i : Nat} (h : xs.length ≤ i) : lx (xs.drop i) (ys.drop i) = 0 := by
  rw [List.drop_eq_nil_of_le h]
  cases ys.drop i <;> rfl
theorem fo_same {xs ys : List Nat} (h : xs.length = ys.length) : fo xs ys = lx xs ys := by
  unfold fo; rw [if_neg (by omega), if_neg (by omega)]
/-- how often a letter stands there, its inverse taken off -/
def smn (xs : List Nat) (a : Nat) : Nat → Int32
  | 0 => 0
  | i + 1 => smn xs a i + (if gd xs i = a then 1 else if gd xs i = fv a then -1 else 0)
/-- the place across lies behind -/
theorem fx_cs {n i : Nat} (h : 2 * i ≤ n) (hn : n < 2 ^ 30) : nI n - nI 1 - nI i ≤ nI i ↔ ¬ 2 * i + 1 < n := by
  rcases Nat.eq_zero_or_pos n with h0 | h0
  · have : i = 0 := by omega
    subst this; subst h0
    exact ⟨fun _ => by omega, fun _ => by decide⟩
  · rw [pk_sub (by omega), pk_sub (by omega), nI_leI (by omega) (by omega)]
    omega
theorem fx_up (i : Nat) : nI (i + 1) - nI 1 = nI i := by rw [pk_sub (by omega)]; rfl
theorem fx_n0 {n : Nat} (h0 : 0 < n) (h : n < 2 ^ 31) : ¬ nI n = 0 := nI_ne0 h0 h
set_option maxRecDepth 100000 in
theorem fin_X7_orderTo_RX7 : ∀ w ∈ u_ws RX7 TX7 2, w ∈ wsX7_orderTo := by decide +kernel
set_option maxHeartbeats 4000000 in
set_option maxRecDepth 100000 in
/-- orderTo: by length, then by the first letter that differs -/
theorem c_X7_orderTo {l : Launch} {G : va_G} {cy : Nat → ClassId} {r lt R r2 lt2 R2 : Nat} {xs ys : List Nat} {f g : Nat → Int32} (hR : R < 2 ^ 20) (hR2 : R2 < 2 ^ 20) (h6 : L6 xs) (hy6 : L6 ys) (hf : Hd f xs) (hg : Hd g ys) (hxR : xs.length ≤ R) (hyR : ys.length ≤ R2) : Ki l yX7_orderTo wsX7_orderTo G cy [.ref r, .ref r2] [(r, .inr (9, [.ref lt, .int (nI xs.length)])), (lt, .inl (cy 0, R, .inl f)), (r2, .inr (9, [.ref lt2, .int (nI ys.length)])), (lt2, .inl (cy 0, R2, .inl g))] (fun (v : Int32) (_ : Unit) => v = fo xs ys) (fun _ => [(r, .inr (9, [.ref lt, .int (nI xs.length)])), (lt, .inl (cy 0, R, .inl f)), (r2, .inr (9, [.ref lt2, .int (nI ys.length)])), (lt2, .inl (cy 0, R2, .inl g))]) 0 0 0 0 := by
  refine Ki_of (cc := cX7_orderTo) (nL := 3) (by decide) rfl (Nat.le_of_ble_eq_true rfl) ?_
  intro p e s m args below meth c A C hnm
  refine j_lo (lo1 := [(0, .ref r), (1, .ref r2)]) [0, 1] rfl ?_
  refine j_aload_n C rfl 0 rfl dX7_orderTo_0 ?_
  refine j_getf C (Cn := RX7) (T := TX7) (N := 2) fin_X7_orderTo_RX7 0 rfl rfl 1 (by decide) (by decide +kernel) rfl dX7_orderTo_1 ?_
  refine j_aload_n C rfl 1 rfl dX7_orderTo_4 ?_
  refine j_getf C (Cn := RX7) (T := TX7) (N := 2) fin_X7_orderTo_RX7 2 rfl rfl 1 (by decide) (by decide +kernel) rfl dX7_orderTo_5 ?_
  refine j_icmp_eq C (P := xs.length = ys.length) (nI_eq (by omega) (by omega)) (tgt := 28) (by decide) dX7_orderTo_8 (fun hE => ?_) (fun hNE => ?_)
  · have lp : ∀ (d9 : Nat) (i : Nat), xs.length - i < d9 → (i ≤ xs.length ∧ lx xs ys = lx (xs.drop i) (ys.drop i)) → J p l e (fz_rm 0 0 0 0) s m args below meth c (MQ below (va_Qi (fun (v : Int32) (_ : Unit) => v = fo xs ys) (fz_B G (fun _ => [(r, .inr (9, [.ref lt, .int (nI xs.length)])), (lt, .inl (cy 0, R, .inl f)), (r2, .inr (9, [.ref lt2, .int (nI ys.length)])), (lt2, .inl (cy 0, R2, .inl g))]) A) A) args s 0 0 A) G A 3 [(r, .inr (9, [.ref lt, .int (nI xs.length)])), (lt, .inl (cy 0, R, .inl f)), (r2, .inr (9, [.ref lt2, .int (nI ys.length)])), (lt2, .inl (cy 0, R2, .inl g))] 0 0 30 [(2, .int (nI i)), (0, .ref r), (1, .ref r2)] [] := by
      intro d9
      induction d9 with
      | zero => intro i hd9; exact absurd hd9 (Nat.not_lt_zero _)
      | succ d9 ih =>
        intro i hd9 hi
        refine j_iload_n C rfl 0 rfl dX7_orderTo_30 ?_
        refine j_aload_n C rfl 1 rfl dX7_orderTo_31 ?_
        refine j_getf C (Cn := RX7) (T := TX7) (N := 2) fin_X7_orderTo_RX7 0 rfl rfl 1 (by decide) (by decide +kernel) rfl dX7_orderTo_32 ?_
        refine j_icmp_ge C (P := xs.length ≤ i) (nI_leI (by omega) (by omega)) (tgt := 80) (by decide) dX7_orderTo_35 (fun ht => ?_) (fun hq => ?_)
        · refine j_iconst C (v := (nI 0)) (by decide) dX7_orderTo_80 ?_
          exact j_iret C rfl (rfl) (()) (by rw [fo_same hE, hi.2, lx_end (by omega)]; rfl) [0, 1, 2, 3] rfl (by decide) (Nat.le_of_ble_eq_true rfl) (Nat.le_of_ble_eq_true rfl) dX7_orderTo_81
        · have hls := lx_step (xs := xs) (ys := ys) (i := i) (by omega) (by omega)
          have l1 := h6 i (by omega)
          have l2 := hy6 i (by omega)
          refine j_aload_n C rfl 1 rfl dX7_orderTo_38 ?_
          refine j_getf C (Cn := RX7) (T := TX7) (N := 2) fin_X7_orderTo_RX7 0 rfl rfl 0 (by decide) (by decide +kernel) rfl dX7_orderTo_39 ?_
          refine j_iload_n C rfl 0 rfl dX7_orderTo_42 ?_
          refine j_bald C 1 rfl (j := i) (by omega) (by omega) (v := (nI (gd xs i))) (hf i (by omega)) dX7_orderTo_43 ?_
          refine j_aload_n C rfl 2 rfl dX7_orderTo_44 ?_
          refine j_getf C (Cn := RX7) (T := TX7) (N := 2) fin_X7_orderTo_RX7 2 rfl rfl 0 (by decide) (by decide +kernel) rfl dX7_orderTo_45 ?_
          refine j_iload_n C rfl 0 rfl dX7_orderTo_48 ?_
          refine j_bald C 3 rfl (j := i) (by omega) (by omega) (v := (nI (gd ys i))) (hg i (by omega)) dX7_orderTo_49 ?_
          refine j_icmp_eq C (P := gd xs i = gd ys i) (nI_eq (by omega) (by omega)) (tgt := 74) (by decide) dX7_orderTo_50 (fun hc => ?_) (fun hd => ?_)
          · rw [hc, if_neg (Nat.lt_irrefl _), if_neg (Nat.lt_irrefl _)] at hls
            refine j_iinc C (v := (nI (i + 1))) (lo1 := [(2, .int (nI (i + 1))), (0, .ref r), (1, .ref r2)]) 0 rfl (fx_inc i 1) (by decide) rfl dX7_orderTo_74 ?_
            refine j_goto C (tgt := 30) (by decide) dX7_orderTo_77 ?_
            refine j_lo (lo1 := [(2, .int (nI (i + 1))), (0, .ref r), (1, .ref r2)]) [0, 1, 2] rfl ?_
            exact ih (i + 1) (by omega) ⟨by omega, by rw [hi.2, hls]⟩
          · refine j_aload_n C rfl 1 rfl dX7_orderTo_53 ?_
            refine j_getf C (Cn := RX7) (T := TX7) (N := 2) fin_X7_orderTo_RX7 0 rfl rfl 0 (by decide) (by decide +kernel) rfl dX7_orderTo_54 ?_
            refine j_iload_n C rfl 0 rfl dX7_orderTo_57 ?_
            refine j_bald C 1 rfl (j := i) (by omega) (by omega) (v := (nI (gd xs i))) (hf i (by omega)) dX7_orderTo_58 ?_
            refine j_aload_n C rfl 2 rfl dX7_orderTo_59 ?_
            refine j_getf C (Cn := RX7) (T := TX7) (N := 2) fin_X7_orderTo_RX7 2 rfl rfl 0 (by decide) (by decide +kernel) rfl dX7_orderTo_60 ?_
            refine j_iload_n C rfl 0 rfl dX7_orderTo_63 ?_
            refine j_bald C 3 rfl (j := i) (by omega) (by omega) (v := (nI (gd ys i))) (hg i (by omega)) dX7_orderTo_64 ?_
            refine j_icmp_ge C (P := gd ys i ≤ gd xs i) (nI_leI (by omega) (by omega)) (tgt := 72) (by decide) dX7_orderTo_65 (fun hg1 => ?_) (fun hl1 => ?_)
            · refine j_iconst C (v := (nI 1)) (by decide) dX7_orderTo_72 ?_
              exact j_iret C rfl (rfl) (()) (by rw [fo_same hE, hi.2, hls, if_neg (by omega), if_pos (by omega)]; rfl) [0, 1, 2, 3] rfl (by decide) (Nat.le_of_ble_eq_true rfl) (Nat.le_of_ble_eq_true rfl) dX7_orderTo_73
            · refine j_iconst C (v := (-1)) (by decide) dX7_orderTo_68 ?_
              refine j_goto C (tgt := 73) (by decide) dX7_orderTo_69 ?_
              exact j_iret C rfl (rfl) (()) (by rw [fo_same hE, hi.2, hls, if_pos (by omega)]) [0, 1, 2, 3] rfl (by decide) (Nat.le_of_ble_eq_true rfl) (Nat.le_of_ble_eq_true rfl) dX7_orderTo_73
    refine j_iconst C (v := (nI 0)) (by decide) dX7_orderTo_28 ?_
    refine j_istore_n C (lo1 := [(2, .int (nI 0)), (0, .ref r), (1, .ref r2)]) rfl (by decide) rfl dX7_orderTo_29 ?_
    refine j_lo (lo1 := [(2, .int (nI 0)), (0, .ref r), (1, .ref r2)]) [0, 1, 2] rfl ?_
    exact lp (xs.length + 1) 0 (by omega) ⟨by omega, rfl⟩
  · refine j_aload_n C rfl 0 rfl dX7_orderTo_11 ?_
    refine j_getf C (Cn := RX7) (T := TX7) (N := 2) fin_X7_orderTo_RX7 0 rfl rfl 1 (by decide) (by decide +kernel) rfl dX7_orderTo_12 ?_
    refine j_aload_n C rfl 1 rfl dX7_orderTo_15 ?_
    refine j_getf C (Cn := RX7) (T := TX7) (N := 2) fin_X7_orderTo_RX7 2 rfl rfl 1 (by decide) (by decide +kernel) rfl dX7_orderTo_16 ?_
    refine j_icmp_ge C (P := ys.length ≤ xs.length) (nI_leI (by omega) (by omega)) (tgt := 26) (by decide) dX7_orderTo_19 (fun hg1 => ?_) (fun hl1 => ?_)
    · refine j_iconst C (v := (nI 1)) (by decide) dX7_orderTo_26 ?_
      exact j_iret C rfl (rfl) (()) (by unfold fo; rw [if_neg (by omega), if_pos (by omega)]; rfl) [0, 1, 2, 3] rfl (by decide) (Nat.le_of_ble_eq_true rfl) (Nat.le_of_ble_eq_true rfl) dX7_orderTo_27
    · refine j_iconst C (v := (-1)) (by decide) dX7_orderTo_22 ?_
      refine j_goto C (tgt := 27) (by decide) dX7_orderTo_23 ?_
      exact j_iret C rfl (rfl) (()) (by unfold fo; rw [if_pos (by omega)]) [0, 1, 2, 3] rfl (by decide) (Nat.le_of_ble_eq_true rfl) (Nat.le_of_ble_eq_true rfl) dX7_orderTo_27
set_option maxHeartbeats 4000000 in
set_option maxRecDepth 100000 in
/-- orderTo: a row with itself -/
theorem c_X7_orderTo0 {l : Launch} {G : va_G} {cy : Nat → ClassId} {r lt R : Nat} {xs : List Nat} {f : Nat → Int32} (hR : R < 2 ^ 20) (h6 : L6 xs) (hf : Hd f xs) (hxR : xs.length ≤ R)  : Ki l yX7_orderTo wsX7_orderTo G cy [.ref r, .ref r] [(r, .inr (9, [.ref lt, .int (nI xs.length)])), (lt, .inl (cy 0, R, .inl f))] (fun (v : Int32) (_ : Unit) => v = 0) (fun _ => [(r, .inr (9, [.ref lt, .int (nI xs.length)])), (lt, .inl (cy 0, R, .inl f))]) 0 0 0 0 := by
  refine Ki_of (cc := cX7_orderTo) (nL := 3) (by decide) rfl (Nat.le_of_ble_eq_true rfl) ?_
  intro p e s m args below meth c A C hnm
  refine j_lo (lo1 := [(0, .ref r), (1, .ref r)]) [0, 1] rfl ?_
  refine j_aload_n C rfl 0 rfl dX7_orderTo_0 ?_
  refine j_getf C (Cn := RX7) (T := TX7) (N := 2) fin_X7_orderTo_RX7 0 rfl rfl 1 (by decide) (by decide +kernel) rfl dX7_orderTo_1 ?_
  refine j_aload_n C rfl 1 rfl dX7_orderTo_4 ?_
  refine j_getf C (Cn := RX7) (T := TX7) (N := 2) fin_X7_orderTo_RX7 0 rfl rfl 1 (by decide) (by decide +kernel) rfl dX7_orderTo_5 ?_
  refine j_icmp_eq C (P := xs.length = xs.length) (nI_eq (by omega) (by omega)) (tgt := 28) (by decide) dX7_orderTo_8 (fun ht => ?_) (fun hq => ?_)
  · have lp : ∀ (d9 : Nat) (i : Nat), xs.length - i < d9 → (i ≤ xs.length) → J p l e (fz_rm 0 0 0 0) s m args below meth c (MQ below (va_Qi (fun (v : Int32) (_ : Unit) => v = 0) (fz_B G (fun _ => [(r, .inr (9, [.ref lt, .int (nI xs.length)])), (lt, .inl (cy 0, R, .inl f))]) A) A) args s 0 0 A) G A 3 [(r, .inr (9, [.ref lt, .int (nI xs.length)])), (lt, .inl (cy 0, R, .inl f))] 0 0 30 [(2, .int (nI i)), (0, .ref r), (1, .ref r)] [] := by
      intro d9
      induction d9 with
      | zero => intro i hd9; exact absurd hd9 (Nat.not_lt_zero _)
      | succ d9 ih =>
        intro i hd9 hi
        refine j_iload_n C rfl 0 rfl dX7_orderTo_30 ?_
        refine j_aload_n C rfl 1 rfl dX7_orderTo_31 ?_
        refine j_getf C (Cn := RX7) (T := TX7) (N := 2) fin_X7_orderTo_RX7 0 rfl rfl 1 (by decide) (by decide +kernel) rfl dX7_orderTo_32 ?_
        refine j_icmp_ge C (P := xs.length ≤ i) (nI_leI (by omega) (by omega)) (tgt := 80) (by decide) dX7_orderTo_35 (fun ha => ?_) (fun hb => ?_)
        · refine j_iconst C (v := (nI 0)) (by decide) dX7_orderTo_80 ?_
          exact j_iret C rfl (rfl) (()) (rfl) [0, 1] rfl (by decide) (Nat.le_of_ble_eq_true rfl) (Nat.le_of_ble_eq_true rfl) dX7_orderTo_81
        · have l1 := h6 i (by omega)
          refine j_aload_n C rfl 1 rfl dX7_orderTo_38 ?_
          refine j_getf C (Cn := RX7) (T := TX7) (N := 2) fin_X7_orderTo_RX7 0 rfl rfl 0 (by decide) (by decide +kernel) rfl dX7_orderTo_39 ?_
          refine j_iload_n C rfl 0 rfl dX7_orderTo_42 ?_
          refine j_bald C 1 rfl (j := i) (by omega) (by omega) (v := (nI (gd xs i))) (hf i (by omega)) dX7_orderTo_43 ?_
          refine j_aload_n C rfl 2 rfl dX7_orderTo_44 ?_
          refine j_getf C (Cn := RX7) (T := TX7) (N := 2) fin_X7_orderTo_RX7 0 rfl rfl 0 (by decide) (by decide +kernel) rfl dX7_orderTo_45 ?_
          refine j_iload_n C rfl 0 rfl dX7_orderTo_48 ?_
          refine j_bald C 1 rfl (j := i) (by omega) (by omega) (v := (nI (gd xs i))) (hf i (by omega)) dX7_orderTo_49 ?_
          refine j_icmp_eq C (P := gd xs i = gd xs i) (nI_eq (by omega) (by omega)) (tgt := 74) (by decide) dX7_orderTo_50 (fun hc => ?_) (fun hd => absurd hd (by omega))
          refine j_iinc C (v := (nI (i + 1))) (lo1 := [(2, .int (nI (i + 1))), (0, .ref r), (1, .ref r)]) 0 rfl (fx_inc i 1) (by decide) rfl dX7_orderTo_74 ?_
          refine j_goto C (tgt := 30) (by decide) dX7_orderTo_77 ?_
          refine j_lo (lo1 := [(2, .int (nI (i + 1))), (0, .ref r), (1, .ref r)]) [0, 1, 2] rfl ?_
          exact ih (i + 1) (by omega) (by omega)
    refine j_iconst C (v := (nI 0)) (by decide) dX7_orderTo_28 ?_
    refine j_istore_n C (lo1 := [(2, .int (nI 0)), (0, .ref r), (1, .ref r)]) rfl (by decide) rfl dX7_orderTo_29 ?_
    refine j_lo (lo1 := [(2, .int (nI 0)), (0, .ref r), (1, .ref r)]) [0, 1, 2] rfl ?_
    exact lp (xs.length + 1) 0 (by omega) (by omega)
  · exact absurd rfl hq
set_option maxRecDepth 100000 in
theorem fin_X7_sumOf_RX7 : ∀ w ∈ u_ws RX7 TX7 2, w ∈ wsX7_sumOf := by decide +kernel
set_option maxHeartbeats 4000000 in
set_option maxRecDepth 100000 in
/-- sumOf -/
theorem c_X7_sumOf {l : Launch} {G : va_G} {cy : Nat → ClassId} {r lt R a : Nat} {xs : List Nat} {f : Nat → Int32} (hR : R < 2 ^ 20) (ha : a < 6) (h6 : L6 xs) (hf : Hd f xs) (hxR : xs.length ≤ R)  : Ki l yX7_sumOf wsX7_sumOf G cy [.ref r, .int (nI a)] [(r, .inr (9, [.ref lt, .int (nI xs.length)])), (lt, .inl (cy 0, R, .inl f))] (fun (v : Int32) (_ : Unit) => v = smn xs a xs.length) (fun _ => [(r, .inr (9, [.ref lt, .int (nI xs.length)])), (lt, .inl (cy 0, R, .inl f))]) 0 0 0 0 := by
  refine Ki_of (cc := cX7_sumOf) (nL := 4) (by decide) rfl (Nat.le_of_ble_eq_true rfl) ?_
  intro p e s m args below meth c A C hnm
  refine j_lo (lo1 := [(0, .ref r), (1, .int (nI a))]) [0, 1] rfl ?_
  have lp : ∀ (d9 : Nat) (i : Nat), xs.length - i < d9 → (i ≤ xs.length) → J p l e (fz_rm 0 0 0 0) s m args below meth c (MQ below (va_Qi (fun (v : Int32) (_ : Unit) => v = smn xs a xs.length) (fz_B G (fun _ => [(r, .inr (9, [.ref lt, .int (nI xs.length)])), (lt, .inl (cy 0, R, .inl f))]) A) A) args s 0 0 A) G A 4 [(r, .inr (9, [.ref lt, .int (nI xs.length)])), (lt, .inl (cy 0, R, .inl f))] 0 0 4 [(3, .int (nI i)), (2, .int (smn xs a i)), (0, .ref r), (1, .int (nI a))] [] := by
    intro d9
    induction d9 with
    | zero => intro i hd9; exact absurd hd9 (Nat.not_lt_zero _)
    | succ d9 ih =>
      intro i hd9 hi
      refine j_iload_n C rfl 0 rfl dX7_sumOf_4 ?_
      refine j_aload_n C rfl 2 rfl dX7_sumOf_5 ?_
      refine j_getf C (Cn := RX7) (T := TX7) (N := 2) fin_X7_sumOf_RX7 0 rfl rfl 1 (by decide) (by decide +kernel) rfl dX7_sumOf_6 ?_
      refine j_icmp_ge C (P := xs.length ≤ i) (nI_leI (by omega) (by omega)) (tgt := 49) (by decide) dX7_sumOf_9 (fun ht => ?_) (fun hq => ?_)
      · have hi9 : i = xs.length := by omega
        subst hi9
        refine j_iload_n C rfl 1 rfl dX7_sumOf_49 ?_
        exact j_iret C rfl (rfl) (()) (rfl) [0, 1] rfl (by decide) (Nat.le_of_ble_eq_true rfl) (Nat.le_of_ble_eq_true rfl) dX7_sumOf_50
      · have l1 := h6 i (by omega)
        have hfv := fv_lt a ha
        refine j_aload_n C rfl 2 rfl dX7_sumOf_12 ?_
        refine j_getf C (Cn := RX7) (T := TX7) (N := 2) fin_X7_sumOf_RX7 0 rfl rfl 0 (by decide) (by decide +kernel) rfl dX7_sumOf_13 ?_
        refine j_iload_n C rfl 0 rfl dX7_sumOf_16 ?_
        refine j_bald C 1 rfl (j := i) (by omega) (by omega) (v := (nI (gd xs i))) (hf i (by omega)) dX7_sumOf_17 ?_
        refine j_iload_n C rfl 3 rfl dX7_sumOf_18 ?_
        refine j_icmp_ne C (P := gd xs i = a) (nI_eq (by omega) (by omega)) (tgt := 28) (by decide) dX7_sumOf_19 (fun hn => ?_) (fun he => ?_)
        · refine j_aload_n C rfl 2 rfl dX7_sumOf_28 ?_
          refine j_getf C (Cn := RX7) (T := TX7) (N := 2) fin_X7_sumOf_RX7 0 rfl rfl 0 (by decide) (by decide +kernel) rfl dX7_sumOf_29 ?_
          refine j_iload_n C rfl 0 rfl dX7_sumOf_32 ?_
          refine j_bald C 1 rfl (j := i) (by omega) (by omega) (v := (nI (gd xs i))) (hf i (by omega)) dX7_sumOf_33 ?_
          refine j_iload_n C rfl 3 rfl dX7_sumOf_34 ?_
          refine j_iconst C (v := (nI 1)) (by decide) dX7_sumOf_35 ?_
          refine j_ixor C (v := (nI (fv a))) (fx_fv a) dX7_sumOf_36 ?_
          refine j_icmp_ne C (P := gd xs i = fv a) (nI_eq (by omega) (by omega)) (tgt := 43) (by decide) dX7_sumOf_37 (fun hn2 => ?_) (fun he2 => ?_)
          · refine j_leq (lo1 := [(3, .int (nI i)), (2, .int (smn xs a (i + 1))), (0, .ref r), (1, .int (nI a))]) (by rw [smn, if_neg hn, if_neg hn2, Int32.add_zero]) ?_
            refine j_iinc C (v := (nI (i + 1))) (lo1 := [(3, .int (nI (i + 1))), (2, .int (smn xs a (i + 1))), (0, .ref r), (1, .int (nI a))]) 0 rfl (fx_inc i 1) (by decide) rfl dX7_sumOf_43 ?_
            refine j_goto C (tgt := 4) (by decide) dX7_sumOf_46 ?_
            refine j_lo (lo1 := [(3, .int (nI (i + 1))), (2, .int (smn xs a (i + 1))), (0, .ref r), (1, .int (nI a))]) [0, 1, 2, 3] rfl ?_
            exact ih (i + 1) (by omega) (by omega)
          · refine j_iinc C (v := (smn xs a (i + 1))) (lo1 := [(2, .int (smn xs a (i + 1))), (3, .int (nI i)), (0, .ref r), (1, .int (nI a))]) 1 rfl (by rw [smn, if_neg hn, if_pos he2]; rfl) (by decide) rfl dX7_sumOf_40 ?_
            refine j_iinc C (v := (nI (i + 1))) (lo1 := [(3, .int (nI (i + 1))), (2, .int (smn xs a (i + 1))), (0, .ref r), (1, .int (nI a))]) 1 rfl (fx_inc i 1) (by decide) rfl dX7_sumOf_43 ?_
            refine j_goto C (tgt := 4) (by decide) dX7_sumOf_46 ?_
            refine j_lo (lo1 := [(3, .int (nI (i + 1))), (2, .int (smn xs a (i + 1))), (0, .ref r), (1, .int (nI a))]) [0, 1, 2, 3] rfl ?_
            exact ih (i + 1) (by omega) (by omega)
        · refine j_iinc C (v := (smn xs a (i + 1))) (lo1 := [(2, .int (smn xs a (i + 1))), (3, .int (nI i)), (0, .ref r), (1, .int (nI a))]) 1 rfl (by rw [smn, if_pos he]; rfl) (by decide) rfl dX7_sumOf_22 ?_
          refine j_goto C (tgt := 43) (by decide) dX7_sumOf_25 ?_
          refine j_iinc C (v := (nI (i + 1))) (lo1 := [(3, .int (nI (i + 1))), (2, .int (smn xs a (i + 1))), (0, .ref r), (1, .int (nI a))]) 1 rfl (fx_inc i 1) (by decide) rfl dX7_sumOf_43 ?_
          refine j_goto C (tgt := 4) (by decide) dX7_sumOf_46 ?_
          refine j_lo (lo1 := [(3, .int (nI (i + 1))), (2, .int (smn xs a (i + 1))), (0, .ref r), (1, .int (nI a))]) [0, 1, 2, 3] rfl ?_
          exact ih (i + 1) (by omega) (by omega)
  refine j_iconst C (v := (nI 0)) (by decide) dX7_sumOf_0 ?_
  refine j_istore_n C (lo1 := [(2, .int (nI 0)), (0, .ref r), (1, .int (nI a))]) rfl (by decide) rfl dX7_sumOf_1 ?_
  refine j_iconst C (v := (nI 0)) (by decide) dX7_sumOf_2 ?_
  refine j_istore_n C (lo1 := [(3, .int (nI 0)), (2, .int (nI 0)), (0, .ref r), (1, .int (nI a))]) rfl (by decide) rfl dX7_sumOf_3 ?_
  refine j_lo (lo1 := [(3, .int (nI 0)), (2, .int (nI 0)), (0, .ref r), (1, .int (nI a))]) [0, 1, 2, 3] rfl ?_
  exact lp (xs.length + 1) 0 (by omega) (by omega)
set_option maxRecDepth 100000 in
theorem fin_X7_isCancelled_RX7 : ∀ w ∈ u_ws RX7 TX7 2, w ∈ wsX7_isCancelled := by decide +kernel
set_option maxHeartbeats 4000000 in
set_option maxRecDepth 100000 in
/-- isCancelled, of a row that is -/
theorem c_X7_isCancelled {l : Launch} {G : va_G} {cy : Nat → ClassId} {r lt R : Nat} {xs : List Nat} {f : Nat → Int32} (hR : R < 2 ^ 20) (hr : Rd xs) (h6 : L6 xs) (hf : Hd f xs) (hxR : xs.length ≤ R)  : Ki l yX7_isCancelled wsX7_isCancelled G cy [.ref r] [(r, .inr (9, [.ref lt, .int (nI xs.length)])), (lt, .inl (cy 0, R, .inl f))] (fun (v : Int32) (_ : Unit) => v = 1) (fun _ => [(r, .inr (9, [.ref lt, .int (nI xs.length)])), (lt, .inl (cy 0, R, .inl f))]) 0 0 0 0 := by
  refine Ki_of (cc := cX7_isCancelled) (nL := 2) (by decide) rfl (Nat.le_of_ble_eq_true rfl) ?_
  intro p e s m args below meth c A C hnm
  refine j_lo (lo1 := [(0, .ref r)]) [0] rfl ?_
  have lp : ∀ (d9 : Nat) (i : Nat), xs.length - i < d9 → (i ≤ xs.length) → J p l e (fz_rm 0 0 0 0) s m args below meth c (MQ below (va_Qi (fun (v : Int32) (_ : Unit) => v = 1) (fz_B G (fun _ => [(r, .inr (9, [.ref lt, .int (nI xs.length)])), (lt, .inl (cy 0, R, .inl f))]) A) A) args s 0 0 A) G A 2 [(r, .inr (9, [.ref lt, .int (nI xs.length)])), (lt, .inl (cy 0, R, .inl f))] 0 0 2 [(1, .int (nI (i + 1))), (0, .ref r)] [] := by
    intro d9
    induction d9 with
    | zero => intro i hd9; exact absurd hd9 (Nat.not_lt_zero _)
    | succ d9 ih =>
      intro i hd9 hi
      refine j_iload_n C rfl 0 rfl dX7_isCancelled_2 ?_
      refine j_aload_n C rfl 1 rfl dX7_isCancelled_3 ?_
      refine j_getf C (Cn := RX7) (T := TX7) (N := 2) fin_X7_isCancelled_RX7 0 rfl rfl 1 (by decide) (by decide +kernel) rfl dX7_isCancelled_4 ?_
      refine j_icmp_ge C (P := xs.length ≤ i + 1) (nI_leI (by omega) (by omega)) (tgt := 37) (by decide) dX7_isCancelled_7 (fun ht => ?_) (fun hq => ?_)
      · refine j_iconst C (v := (nI 1)) (by decide) dX7_isCancelled_37 ?_
        exact j_iret C rfl (rfl) (()) (rfl) [0, 1] rfl (by decide) (Nat.le_of_ble_eq_true rfl) (Nat.le_of_ble_eq_true rfl) dX7_isCancelled_38
      · have l1 := h6 i (by omega)
        have l2 := fv_lt _ (h6 (i + 1) (by omega))
        have hne := Rd_at hr i (by omega)
        refine j_aload_n C rfl 1 rfl dX7_isCancelled_10 ?_
        refine j_getf C (Cn := RX7) (T := TX7) (N := 2) fin_X7_isCancelled_RX7 0 rfl rfl 0 (by decide) (by decide +kernel) rfl dX7_isCancelled_11 ?_
        refine j_iload_n C rfl 0 rfl dX7_isCancelled_14 ?_
        refine j_iconst C (v := (nI 1)) (by decide) dX7_isCancelled_15 ?_
        refine j_isub C (v := (nI i)) (fx_up i) dX7_isCancelled_16 ?_
        refine j_bald C 1 rfl (j := i) (by omega) (by omega) (v := (nI (gd xs i))) (hf i (by omega)) dX7_isCancelled_17 ?_
        refine j_aload_n C rfl 1 rfl dX7_isCancelled_18 ?_
        refine j_getf C (Cn := RX7) (T := TX7) (N := 2) fin_X7_isCancelled_RX7 0 rfl rfl 0 (by decide) (by decide +kernel) rfl dX7_isCancelled_19 ?_
        refine j_iload_n C rfl 0 rfl dX7_isCancelled_22 ?_
        refine j_bald C 1 rfl (j := i + 1) (by omega) (by omega) (v := (nI (gd xs (i + 1)))) (hf (i + 1) (by omega)) dX7_isCancelled_23 ?_
        refine j_iconst C (v := (nI 1)) (by decide) dX7_isCancelled_24 ?_
        refine j_ixor C (v := (nI (fv (gd xs (i + 1))))) (fx_fv (gd xs (i + 1))) dX7_isCancelled_25 ?_
        refine j_icmp_ne C (P := gd xs i = fv (gd xs (i + 1))) (nI_eq (by omega) (by omega)) (tgt := 31) (by decide) dX7_isCancelled_26 (fun hn => ?_) (fun he => absurd he (hne))
        refine j_iinc C (v := (nI (i + 1 + 1))) (lo1 := [(1, .int (nI (i + 1 + 1))), (0, .ref r)]) 0 rfl (fx_inc (i + 1) 1) (by decide) rfl dX7_isCancelled_31 ?_
        refine j_goto C (tgt := 2) (by decide) dX7_isCancelled_34 ?_
        refine j_lo (lo1 := [(1, .int (nI (i + 1 + 1))), (0, .ref r)]) [0, 1] rfl ?_
        exact ih (i + 1) (by omega) (by omega)
  refine j_iconst C (v := (nI 1)) (by decide) dX7_isCancelled_0 ?_
  refine j_istore_n C (lo1 := [(1, .int (nI 1)), (0, .ref r)]) rfl (by decide) rfl dX7_isCancelled_1 ?_
  refine j_lo (lo1 := [(1, .int (nI 1)), (0, .ref r)]) [0, 1] rfl ?_
  exact lp (xs.length + 1) 0 (by omega) (by omega)
set_option maxRecDepth 100000 in
theorem fin_X7_coreStart_RX7 : ∀ w ∈ u_ws RX7 TX7 2, w ∈ wsX7_coreStart := by decide +kernel
set_option maxHeartbeats 4000000 in
set_option maxRecDepth 100000 in
/-- coreStart -/
theorem c_X7_coreStart {l : Launch} {G : va_G} {cy : Nat → ClassId} {r lt R e9 : Nat} {xs : List Nat} {f : Nat → Int32} (hR : R < 2 ^ 20) (he : IsE xs e9) (h6 : L6 xs) (hf : Hd f xs) (hxR : xs.length ≤ R)  : Ki l yX7_coreStart wsX7_coreStart G cy [.ref r] [(r, .inr (9, [.ref lt, .int (nI xs.length)])), (lt, .inl (cy 0, R, .inl f))] (fun (v : Int32) (_ : Unit) => v = nI e9) (fun _ => [(r, .inr (9, [.ref lt, .int (nI xs.length)])), (lt, .inl (cy 0, R, .inl f))]) 0 0 0 0 := by
  refine Ki_of (cc := cX7_coreStart) (nL := 2) (by decide) rfl (Nat.le_of_ble_eq_true rfl) ?_
  intro p e s m args below meth c A C hnm
  refine j_lo (lo1 := [(0, .ref r)]) [0] rfl ?_
  have lp : ∀ (d9 : Nat) (i : Nat), e9 - i < d9 → (i ≤ e9) → J p l e (fz_rm 0 0 0 0) s m args below meth c (MQ below (va_Qi (fun (v : Int32) (_ : Unit) => v = nI e9) (fz_B G (fun _ => [(r, .inr (9, [.ref lt, .int (nI xs.length)])), (lt, .inl (cy 0, R, .inl f))]) A) A) args s 0 0 A) G A 2 [(r, .inr (9, [.ref lt, .int (nI xs.length)])), (lt, .inl (cy 0, R, .inl f))] 0 0 2 [(1, .int (nI i)), (0, .ref r)] [] := by
    intro d9
    induction d9 with
    | zero => intro i hd9; exact absurd hd9 (Nat.not_lt_zero _)
    | succ d9 ih =>
      intro i hd9 hi
      have hle := IsE_le he
      refine j_iload_n C rfl 0 rfl dX7_coreStart_2 ?_
      refine j_aload_n C rfl 1 rfl dX7_coreStart_3 ?_
      refine j_getf C (Cn := RX7) (T := TX7) (N := 2) fin_X7_coreStart_RX7 0 rfl rfl 1 (by decide) (by decide +kernel) rfl dX7_coreStart_4 ?_
      refine j_iconst C (v := (nI 1)) (by decide) dX7_coreStart_7 ?_
      refine j_isub C (v := (nI xs.length - nI 1)) (rfl) dX7_coreStart_8 ?_
      refine j_iload_n C rfl 0 rfl dX7_coreStart_9 ?_
      refine j_isub C (v := (nI xs.length - nI 1 - nI i)) (rfl) dX7_coreStart_10 ?_
      refine j_icmp_ge C (P := ¬ 2 * i + 1 < xs.length) (fx_cs (by omega) (by omega)) (tgt := 44) (by decide) dX7_coreStart_11 (fun ht => ?_) (fun hq => ?_)
      · have hie : i = e9 := Nat.le_antisymm hi (Nat.le_of_not_lt fun z => ht (he.1 i z).1)
        subst hie
        refine j_iload_n C rfl 0 rfl dX7_coreStart_44 ?_
        exact j_iret C rfl (rfl) (()) (rfl) [0, 1] rfl (by decide) (Nat.le_of_ble_eq_true rfl) (Nat.le_of_ble_eq_true rfl) dX7_coreStart_45
      · have hq9 : 2 * i + 1 < xs.length := Classical.not_not.mp hq
        have l1 := h6 i (by omega)
        have l2 := fv_lt _ (h6 (xs.length - 1 - i) (by omega))
        refine j_aload_n C rfl 1 rfl dX7_coreStart_14 ?_
        refine j_getf C (Cn := RX7) (T := TX7) (N := 2) fin_X7_coreStart_RX7 0 rfl rfl 0 (by decide) (by decide +kernel) rfl dX7_coreStart_15 ?_
        refine j_iload_n C rfl 0 rfl dX7_coreStart_18 ?_
        refine j_bald C 1 rfl (j := i) (by omega) (by omega) (v := (nI (gd xs i))) (hf i (by omega)) dX7_coreStart_19 ?_
        refine j_aload_n C rfl 1 rfl dX7_coreStart_20 ?_
        refine j_getf C (Cn := RX7) (T := TX7) (N := 2) fin_X7_coreStart_RX7 0 rfl rfl 0 (by decide) (by decide +kernel) rfl dX7_coreStart_21 ?_
        refine j_aload_n C rfl 1 rfl dX7_coreStart_24 ?_
        refine j_getf C (Cn := RX7) (T := TX7) (N := 2) fin_X7_coreStart_RX7 0 rfl rfl 1 (by decide) (by decide +kernel) rfl dX7_coreStart_25 ?_
        refine j_iconst C (v := (nI 1)) (by decide) dX7_coreStart_28 ?_
        refine j_isub C (v := (nI (xs.length - 1))) (pk_sub (by omega)) dX7_coreStart_29 ?_
        refine j_iload_n C rfl 0 rfl dX7_coreStart_30 ?_
        refine j_isub C (v := (nI (xs.length - 1 - i))) (pk_sub (by omega)) dX7_coreStart_31 ?_
        refine j_bald C 1 rfl (j := xs.length - 1 - i) (by omega) (by omega) (v := (nI (gd xs (xs.length - 1 - i)))) (hf _ (by omega)) dX7_coreStart_32 ?_
        refine j_iconst C (v := (nI 1)) (by decide) dX7_coreStart_33 ?_
        refine j_ixor C (v := (nI (fv (gd xs (xs.length - 1 - i))))) (fx_fv (gd xs (xs.length - 1 - i))) dX7_coreStart_34 ?_
        refine j_icmp_ne C (P := gd xs i = fv (gd xs (xs.length - 1 - i))) (nI_eq (by omega) (by omega)) (tgt := 44) (by decide) dX7_coreStart_35 (fun hn => ?_) (fun hy => ?_)
        · have hie : i = e9 := Nat.le_antisymm hi (Nat.le_of_not_lt fun z => hn (he.1 i z).2)
          subst hie
          refine j_iload_n C rfl 0 rfl dX7_coreStart_44 ?_
          exact j_iret C rfl (rfl) (()) (rfl) [0, 1] rfl (by decide) (Nat.le_of_ble_eq_true rfl) (Nat.le_of_ble_eq_true rfl) dX7_coreStart_45
        · have hne : i ≠ e9 := fun z => he.2 (by rw [← z]; exact ⟨hq9, hy⟩)
          refine j_iinc C (v := (nI (i + 1))) (lo1 := [(1, .int (nI (i + 1))), (0, .ref r)]) 0 rfl (fx_inc i 1) (by decide) rfl dX7_coreStart_38 ?_
          refine j_goto C (tgt := 2) (by decide) dX7_coreStart_41 ?_
          refine j_lo (lo1 := [(1, .int (nI (i + 1))), (0, .ref r)]) [0, 1] rfl ?_
          exact ih (i + 1) (by omega) (by omega)
  refine j_iconst C (v := (nI 0)) (by decide) dX7_coreStart_0 ?_
  refine j_istore_n C (lo1 := [(1, .int (nI 0)), (0, .ref r)]) rfl (by decide) rfl dX7_coreStart_1 ?_
  refine j_lo (lo1 := [(1, .int (nI 0)), (0, .ref r)]) [0, 1] rfl ?_
  exact lp (e9 + 1) 0 (by omega) (by omega)
set_option maxRecDepth 100000 in
theorem fin_X7_coreSize_RX7 : ∀ w ∈ u_ws RX7 TX7 2, w ∈ wsX7_coreSize := by decide +kernel
theorem hdV_X7_coreStart : yX7_coreStart.cls = RX7 ∧ yX7_coreStart.cls ≠ "java/lang/invoke/MethodHandle" ∧ yX7_coreStart.cls ≠ "java/lang/invoke/VarHandle" ∧ (parseMethodDescriptor yX7_coreStart.desc).map (fun d => d.parameters.length) = some 0 := by decide +kernel
set_option maxHeartbeats 4000000 in
set_option maxRecDepth 100000 in
/-- coreSize -/
theorem c_X7_coreSize {l : Launch} {G : va_G} {cy : Nat → ClassId} {r lt R e9 : Nat} {xs : List Nat} {f : Nat → Int32} (hR : R < 2 ^ 20) (he : IsE xs e9) (h6 : L6 xs) (hf : Hd f xs) (hxR : xs.length ≤ R)  : Ki l yX7_coreSize wsX7_coreSize G cy [.ref r] [(r, .inr (9, [.ref lt, .int (nI xs.length)])), (lt, .inl (cy 0, R, .inl f))] (fun (v : Int32) (_ : Unit) => v = nI (xs.length - 2 * e9)) (fun _ => [(r, .inr (9, [.ref lt, .int (nI xs.length)])), (lt, .inl (cy 0, R, .inl f))]) 1 0 0 21 := by
  refine Ki_of (cc := cX7_coreSize) (nL := 1) (by decide) rfl (Nat.le_of_ble_eq_true rfl) ?_
  intro p e s m args below meth c A C hnm
  refine j_lo (lo1 := [(0, .ref r)]) [0] rfl ?_
  refine j_aload_n C rfl 0 rfl dX7_coreSize_0 ?_
  refine j_getf C (Cn := RX7) (T := TX7) (N := 2) fin_X7_coreSize_RX7 0 rfl rfl 1 (by decide) (by decide +kernel) rfl dX7_coreSize_1 ?_
  refine j_iconst C (v := (nI 2)) (by decide) dX7_coreSize_4 ?_
  refine j_aload_n C rfl 0 rfl dX7_coreSize_5 ?_
  refine j_resi (k1 := 0) (n1 := 0) C (j_runV C (c_X7_coreStart hR he h6 hf hxR) gX7_coreSize_X7_coreStart rfl hdV_X7_coreStart ⟨Nat.le_of_ble_eq_true rfl, Nat.le_of_ble_eq_true rfl⟩ ⟨Nat.le_of_ble_eq_true rfl, Nat.le_of_ble_eq_true rfl⟩ 0 rfl rfl rfl [0, 1] rfl (by decide) rfl (Nat.le_of_ble_eq_true rfl) dX7_coreSize_6) (wr := []) [] rfl (by decide) (by decide) (Nat.le_refl _) (Nat.le_refl _) (fun v u hv => ?_)
  subst hv
  have hle := IsE_le he
  refine j_imul C (v := (nI (2 * e9))) (pk_mul 2 e9) dX7_coreSize_9 ?_
  refine j_isub C (v := (nI (xs.length - (2 * e9)))) (pk_sub (by omega)) dX7_coreSize_10 ?_
  exact j_iret C rfl (rfl) (()) (rfl) [0, 1] rfl (by decide) (Nat.le_of_ble_eq_true rfl) (Nat.le_of_ble_eq_true rfl) dX7_coreSize_11
set_option maxRecDepth 100000 in
theorem fin_X7_repeats_RX7 : ∀ w ∈ u_ws RX7 TX7 2, w ∈ wsX7_repeats := by decide +kernel
set_option maxHeartbeats 4000000 in
set_option maxRecDepth 100000 in
/-- repeats -/
theorem c_X7_repeats {l : Launch} {G : va_G} {cy : Nat → ClassId} {r lt R e9 core q : Nat} {xs : List Nat} {f : Nat → Int32} (hR : R < 2 ^ 20) (h1 : 1 ≤ q) (hqc : q ≤ core) (hec : e9 + core ≤ xs.length) (h6 : L6 xs) (hf : Hd f xs) (hxR : xs.length ≤ R)  : Ki l yX7_repeats wsX7_repeats G cy [.ref r, .int (nI e9), .int (nI core), .int (nI q)] [(r, .inr (9, [.ref lt, .int (nI xs.length)])), (lt, .inl (cy 0, R, .inl f))] (fun (v : Int32) (_ : Unit) => (v = 1 ∧ Rp xs e9 core q) ∨ (v = 0 ∧ ¬ Rp xs e9 core q)) (fun _ => [(r, .inr (9, [.ref lt, .int (nI xs.length)])), (lt, .inl (cy 0, R, .inl f))]) 0 0 0 0 := by
  refine Ki_of (cc := cX7_repeats) (nL := 5) (by decide) rfl (Nat.le_of_ble_eq_true rfl) ?_
  intro p e s m args below meth c A C hnm
  refine j_lo (lo1 := [(0, .ref r), (1, .int (nI e9)), (2, .int (nI core)), (3, .int (nI q))]) [0, 1, 2, 3] rfl ?_
  have lp : ∀ (d9 : Nat) (j : Nat), e9 + core - j < d9 → ((e9 + q ≤ j ∧ j ≤ e9 + core) ∧ ∀ i, q ≤ i → e9 + i < j → gd xs (e9 + i) = gd xs (e9 + i - q)) → J p l e (fz_rm 0 0 0 0) s m args below meth c (MQ below (va_Qi (fun (v : Int32) (_ : Unit) => (v = 1 ∧ Rp xs e9 core q) ∨ (v = 0 ∧ ¬ Rp xs e9 core q)) (fz_B G (fun _ => [(r, .inr (9, [.ref lt, .int (nI xs.length)])), (lt, .inl (cy 0, R, .inl f))]) A) A) args s 0 0 A) G A 5 [(r, .inr (9, [.ref lt, .int (nI xs.length)])), (lt, .inl (cy 0, R, .inl f))] 0 0 5 [(4, .int (nI j)), (1, .int (nI e9)), (2, .int (nI core)), (3, .int (nI q)), (0, .ref r)] [] := by
    intro d9
    induction d9 with
    | zero => intro j hd9; exact absurd hd9 (Nat.not_lt_zero _)
    | succ d9 ih =>
      intro j hd9 hj
      refine j_iload C 0 rfl dX7_repeats_5 ?_
      refine j_iload_n C rfl 1 rfl dX7_repeats_7 ?_
      refine j_iload_n C rfl 2 rfl dX7_repeats_8 ?_
      refine j_iadd C (v := (nI (e9 + core))) (fx_add e9 core) dX7_repeats_9 ?_
      refine j_icmp_ge C (P := e9 + core ≤ j) (nI_leI (by omega) (by omega)) (tgt := 40) (by decide) dX7_repeats_10 (fun ht => ?_) (fun hz => ?_)
      · refine j_iconst C (v := (nI 1)) (by decide) dX7_repeats_40 ?_
        exact j_iret C rfl (rfl) (()) (Or.inl ⟨rfl, fun i h1 h2 => hj.2 i h1 (by omega)⟩) [0, 1] rfl (by decide) (Nat.le_of_ble_eq_true rfl) (Nat.le_of_ble_eq_true rfl) dX7_repeats_41
      · have l1 := h6 j (by omega)
        have l2 := h6 (j - q) (by omega)
        refine j_aload_n C rfl 4 rfl dX7_repeats_13 ?_
        refine j_getf C (Cn := RX7) (T := TX7) (N := 2) fin_X7_repeats_RX7 0 rfl rfl 0 (by decide) (by decide +kernel) rfl dX7_repeats_14 ?_
        refine j_iload C 0 rfl dX7_repeats_17 ?_
        refine j_bald C 1 rfl (j := j) (by omega) (by omega) (v := (nI (gd xs j))) (hf j (by omega)) dX7_repeats_19 ?_
        refine j_aload_n C rfl 4 rfl dX7_repeats_20 ?_
        refine j_getf C (Cn := RX7) (T := TX7) (N := 2) fin_X7_repeats_RX7 0 rfl rfl 0 (by decide) (by decide +kernel) rfl dX7_repeats_21 ?_
        refine j_iload C 0 rfl dX7_repeats_24 ?_
        refine j_iload_n C rfl 3 rfl dX7_repeats_26 ?_
        refine j_isub C (v := (nI (j - q))) (pk_sub (by omega)) dX7_repeats_27 ?_
        refine j_bald C 1 rfl (j := j - q) (by omega) (by omega) (v := (nI (gd xs (j - q)))) (hf _ (by omega)) dX7_repeats_28 ?_
        refine j_icmp_eq C (P := gd xs j = gd xs (j - q)) (nI_eq (by omega) (by omega)) (tgt := 34) (by decide) dX7_repeats_29 (fun hy => ?_) (fun hn => ?_)
        · refine j_iinc C (v := (nI (j + 1))) (lo1 := [(4, .int (nI (j + 1))), (1, .int (nI e9)), (2, .int (nI core)), (3, .int (nI q)), (0, .ref r)]) 0 rfl (fx_inc j 1) (by decide) rfl dX7_repeats_34 ?_
          refine j_goto C (tgt := 5) (by decide) dX7_repeats_37 ?_
          refine j_lo (lo1 := [(4, .int (nI (j + 1))), (1, .int (nI e9)), (2, .int (nI core)), (3, .int (nI q)), (0, .ref r)]) [0, 1, 2, 3, 4] rfl ?_
          refine ih (j + 1) (by omega) ⟨by omega, fun i h1 h2 => ?_⟩
          rcases Nat.lt_or_ge (e9 + i) j with z9 | z9
          · exact hj.2 i h1 z9
          · rw [show e9 + i = j by omega]; exact hy
        · refine j_iconst C (v := (nI 0)) (by decide) dX7_repeats_32 ?_
          exact j_iret C rfl (rfl) (()) (Or.inr ⟨rfl, fun z => hn (by have z2 := z (j - e9) (by omega) (by omega); rwa [show e9 + (j - e9) = j by omega] at z2)⟩) [0, 1] rfl (by decide) (Nat.le_of_ble_eq_true rfl) (Nat.le_of_ble_eq_true rfl) dX7_repeats_33
  refine j_iload_n C rfl 1 rfl dX7_repeats_0 ?_
  refine j_iload_n C rfl 3 rfl dX7_repeats_1 ?_
  refine j_iadd C (v := (nI (e9 + q))) (fx_add e9 q) dX7_repeats_2 ?_
  refine j_istore C (lo1 := [(4, .int (nI (e9 + q))), (0, .ref r), (1, .int (nI e9)), (2, .int (nI core)), (3, .int (nI q))]) (by decide) rfl dX7_repeats_3 ?_
  refine j_lo (lo1 := [(4, .int (nI (e9 + q))), (1, .int (nI e9)), (2, .int (nI core)), (3, .int (nI q)), (0, .ref r)]) [0, 2, 3, 4, 1] rfl ?_
  exact lp (e9 + core + 1) (e9 + q) (by omega) ⟨by omega, fun i h1 h2 => absurd h2 (by omega)⟩
set_option maxRecDepth 100000 in
theorem fin_X7_corePeriod_RX7 : ∀ w ∈ u_ws RX7 TX7 2, w ∈ wsX7_corePeriod := by decide +kernel
theorem hdV_X7_repeats : yX7_repeats.cls = RX7 ∧ yX7_repeats.cls ≠ "java/lang/invoke/MethodHandle" ∧ yX7_repeats.cls ≠ "java/lang/invoke/VarHandle" ∧ (parseMethodDescriptor yX7_repeats.desc).map (fun d => d.parameters.length) = some 3 := by decide +kernel
set_option maxHeartbeats 4000000 in
set_option maxRecDepth 100000 in
/-- corePeriod -/
theorem c_X7_corePeriod {l : Launch} {G : va_G} {cy : Nat → ClassId} {r lt R e9 core per : Nat} {xs : List Nat} {f : Nat → Int32} (hR : R < 2 ^ 20) (he : IsE xs e9) (hec : xs.length = 2 * e9 + core) (hp : (core = 0 ∧ per = 0) ∨ IsP xs e9 core per) (h6 : L6 xs) (hf : Hd f xs) (hxR : xs.length ≤ R)  : Ki l yX7_corePeriod wsX7_corePeriod G cy [.ref r] [(r, .inr (9, [.ref lt, .int (nI xs.length)])), (lt, .inl (cy 0, R, .inl f))] (fun (v : Int32) (_ : Unit) => v = nI per) (fun _ => [(r, .inr (9, [.ref lt, .int (nI xs.length)])), (lt, .inl (cy 0, R, .inl f))]) 1 0 0 24 := by
  refine Ki_of (cc := cX7_corePeriod) (nL := 4) (by decide) rfl (Nat.le_of_ble_eq_true rfl) ?_
  intro p e s m args below meth c A C hnm
  refine j_lo (lo1 := [(0, .ref r)]) [0] rfl ?_
  refine j_aload_n C rfl 0 rfl dX7_corePeriod_0 ?_
  refine j_resi (k1 := 0) (n1 := 0) C (j_runV C (c_X7_coreStart hR he h6 hf hxR) gX7_corePeriod_X7_coreStart rfl hdV_X7_coreStart ⟨Nat.le_of_ble_eq_true rfl, Nat.le_of_ble_eq_true rfl⟩ ⟨Nat.le_of_ble_eq_true rfl, Nat.le_of_ble_eq_true rfl⟩ 0 rfl rfl rfl [0, 1] rfl (by decide) rfl (Nat.le_of_ble_eq_true rfl) dX7_corePeriod_1) (wr := []) [] rfl (by decide) (by decide) (Nat.le_refl _) (Nat.le_refl _) (fun v u hv => ?_)
  subst hv
  have hle := IsE_le he
  refine j_istore_n C (lo1 := [(1, .int (nI e9)), (0, .ref r)]) rfl (by decide) rfl dX7_corePeriod_4 ?_
  refine j_aload_n C rfl 1 rfl dX7_corePeriod_5 ?_
  refine j_getf C (Cn := RX7) (T := TX7) (N := 2) fin_X7_corePeriod_RX7 0 rfl rfl 1 (by decide) (by decide +kernel) rfl dX7_corePeriod_6 ?_
  refine j_iconst C (v := (nI 2)) (by decide) dX7_corePeriod_9 ?_
  refine j_iload_n C rfl 0 rfl dX7_corePeriod_10 ?_
  refine j_imul C (v := (nI (2 * e9))) (pk_mul 2 e9) dX7_corePeriod_11 ?_
  refine j_isub C (v := (nI core)) (by rw [pk_sub (by omega), show xs.length - 2 * e9 = core by omega]) dX7_corePeriod_12 ?_
  refine j_istore_n C (lo1 := [(2, .int (nI core)), (1, .int (nI e9)), (0, .ref r)]) rfl (by decide) rfl dX7_corePeriod_13 ?_
  refine j_iconst C (v := (nI 1)) (by decide) dX7_corePeriod_14 ?_
  refine j_istore_n C (lo1 := [(3, .int (nI 1)), (2, .int (nI core)), (1, .int (nI e9)), (0, .ref r)]) rfl (by decide) rfl dX7_corePeriod_15 ?_
  refine j_lo (lo1 := [(3, .int (nI 1)), (2, .int (nI core)), (1, .int (nI e9)), (0, .ref r)]) [0, 1, 2, 3] rfl ?_
  have hdone : ∀ q, core ≤ q → (∀ q9, 1 ≤ q9 → q9 < q → ¬ (core % q9 = 0 ∧ Rp xs e9 core q9)) → core = per := fun q h1 h2 => by
    rcases hp with ⟨z1, z2⟩ | ⟨z1, z2, z3, z4, z5⟩
    · omega
    · rcases Nat.lt_or_ge per q with z | z
      · exact absurd ⟨z3, z4⟩ (h2 per z1 z)
      · omega
  have hfound : ∀ q, 1 ≤ q → q < core → (∀ q9, 1 ≤ q9 → q9 < q → ¬ (core % q9 = 0 ∧ Rp xs e9 core q9)) → core % q = 0 → Rp xs e9 core q → q = per := fun q h1 h0 h2 h3 h4 => by
    rcases hp with ⟨z1, z2⟩ | ⟨z1, z2, z3, z4, z5⟩
    · omega
    · rcases Nat.lt_trichotomy per q with z | z | z
      · exact absurd ⟨z3, z4⟩ (h2 per z1 z)
      · exact z.symm
      · exact absurd ⟨h3, h4⟩ (z5 q h1 z)
  have lp : ∀ (d9 : Nat) (q : Nat), core - q < d9 → ((1 ≤ q ∧ q ≤ core + 1) ∧ ∀ q9, 1 ≤ q9 → q9 < q → ¬ (core % q9 = 0 ∧ Rp xs e9 core q9)) → J p l e (fz_rm 1 0 0 24) s m args below meth c (MQ below (va_Qi (fun (v : Int32) (_ : Unit) => v = nI per) (fz_B G (fun _ => [(r, .inr (9, [.ref lt, .int (nI xs.length)])), (lt, .inl (cy 0, R, .inl f))]) A) A) args s 0 0 A) G A 4 [(r, .inr (9, [.ref lt, .int (nI xs.length)])), (lt, .inl (cy 0, R, .inl f))] 0 0 16 [(3, .int (nI q)), (2, .int (nI core)), (1, .int (nI e9)), (0, .ref r)] [] := by
    intro d9
    induction d9 with
    | zero => intro q hd9; exact absurd hd9 (Nat.not_lt_zero _)
    | succ d9 ih =>
      intro q hd9 hj
      refine j_iload_n C rfl 0 rfl dX7_corePeriod_16 ?_
      refine j_iload_n C rfl 1 rfl dX7_corePeriod_17 ?_
      refine j_icmp_ge C (P := core ≤ q) (nI_leI (by omega) (by omega)) (tgt := 45) (by decide) dX7_corePeriod_18 (fun ht => ?_) (fun hz => ?_)
      · refine j_iload_n C rfl 1 rfl dX7_corePeriod_45 ?_
        exact j_iret C rfl (rfl) (()) (by rw [hdone q (by omega) hj.2]) [0, 1] rfl (by decide) (Nat.le_of_ble_eq_true rfl) (Nat.le_of_ble_eq_true rfl) dX7_corePeriod_46
      · refine j_iload_n C rfl 1 rfl dX7_corePeriod_21 ?_
        refine j_iload_n C rfl 0 rfl dX7_corePeriod_22 ?_
        refine j_irem C (v := (nI (core % q))) (fx_n0 (by omega) (by omega)) (pk_rem (by omega) (by omega) (by omega)) dX7_corePeriod_23 ?_
        have hrl := Nat.mod_lt core (show 0 < q by omega)
        refine j_if_ne C (P := core % q = 0) (fx_eq0 (by omega)) (tgt := 39) (by decide) dX7_corePeriod_24 (fun hn => ?_) (fun hy => ?_)
        · refine j_iinc C (v := (nI (q + 1))) (lo1 := [(3, .int (nI (q + 1))), (2, .int (nI core)), (1, .int (nI e9)), (0, .ref r)]) 0 rfl (fx_inc q 1) (by decide) rfl dX7_corePeriod_39 ?_
          refine j_goto C (tgt := 16) (by decide) dX7_corePeriod_42 ?_
          refine j_lo (lo1 := [(3, .int (nI (q + 1))), (2, .int (nI core)), (1, .int (nI e9)), (0, .ref r)]) [0, 1, 2, 3] rfl ?_
          exact ih (q + 1) (by omega) ⟨⟨by omega, by omega⟩, fun q9 h1 h2 => (Nat.lt_or_ge q9 q).elim (hj.2 q9 h1) fun z9 => by rw [show q9 = q by omega]; exact fun z8 => hn z8.1⟩
        · refine j_aload_n C rfl 3 rfl dX7_corePeriod_27 ?_
          refine j_iload_n C rfl 2 rfl dX7_corePeriod_28 ?_
          refine j_iload_n C rfl 1 rfl dX7_corePeriod_29 ?_
          refine j_iload_n C rfl 0 rfl dX7_corePeriod_30 ?_
          refine j_resi (k1 := 0) (n1 := 0) C (j_runV C (c_X7_repeats (q := q) hR (by omega) (by omega) (by omega) h6 hf hxR) gX7_corePeriod_X7_repeats rfl hdV_X7_repeats ⟨Nat.le_of_ble_eq_true rfl, Nat.le_of_ble_eq_true rfl⟩ ⟨Nat.le_of_ble_eq_true rfl, Nat.le_of_ble_eq_true rfl⟩ 0 rfl rfl rfl [0, 1] rfl (by decide) rfl (Nat.le_of_ble_eq_true rfl) dX7_corePeriod_31) (wr := []) [] rfl (by decide) (by decide) (Nat.le_refl _) (Nat.le_refl _) (fun v u hv => ?_)
          rcases hv with ⟨rfl, hv⟩ | ⟨rfl, hv⟩
          · refine j_if_eq C (P := False) (by decide) (tgt := 39) (by decide) dX7_corePeriod_34 (fun h9 => h9.elim) (fun _ => ?_)
            refine j_iload_n C rfl 0 rfl dX7_corePeriod_37 ?_
            exact j_iret C rfl (rfl) (()) (by rw [hfound q hj.1.1 (by omega) hj.2 hy hv]) [0, 1] rfl (by decide) (Nat.le_of_ble_eq_true rfl) (Nat.le_of_ble_eq_true rfl) dX7_corePeriod_38
          · refine j_if_eq C (P := True) (by decide) (tgt := 39) (by decide) dX7_corePeriod_34 (fun _ => ?_) (fun h9 => absurd trivial h9)
            refine j_iinc C (v := (nI (q + 1))) (lo1 := [(3, .int (nI (q + 1))), (2, .int (nI core)), (1, .int (nI e9)), (0, .ref r)]) 0 rfl (fx_inc q 1) (by decide) rfl dX7_corePeriod_39 ?_
            refine j_goto C (tgt := 16) (by decide) dX7_corePeriod_42 ?_
            refine j_lo (lo1 := [(3, .int (nI (q + 1))), (2, .int (nI core)), (1, .int (nI e9)), (0, .ref r)]) [0, 1, 2, 3] rfl ?_
            exact ih (q + 1) (by omega) ⟨⟨by omega, by omega⟩, fun q9 h1 h2 => (Nat.lt_or_ge q9 q).elim (hj.2 q9 h1) fun z9 => by rw [show q9 = q by omega]; exact fun z8 => hv z8.2⟩
  exact lp (core + 1) 1 (by omega) ⟨⟨by omega, by omega⟩, fun q9 h1 h2 => absurd h2 (by omega)⟩
set_option maxRecDepth 100000 in
theorem fin_X7_isTurned_RX7 : ∀ w ∈ u_ws RX7 TX7 2, w ∈ wsX7_isTurned := by decide +kernel
set_option maxHeartbeats 4000000 in
set_option maxRecDepth 100000 in
/-- isTurned -/
theorem c_X7_isTurned {l : Launch} {G : va_G} {cy : Nat → ClassId} {r lt R r2 lt2 R2 : Nat} {xs ys : List Nat} {f g : Nat → Int32} (hR : R < 2 ^ 20) (hR2 : R2 < 2 ^ 20) {e1 e2 t core : Nat} (htc : t < core) (hc1 : e1 + core ≤ xs.length) (hc2 : e2 + core ≤ ys.length) (h6 : L6 xs) (hy6 : L6 ys) (hf : Hd f xs) (hg : Hd g ys) (hxR : xs.length ≤ R) (hyR : ys.length ≤ R2)  : Ki l yX7_isTurned wsX7_isTurned G cy [.ref r, .int (nI e1), .ref r2, .int (nI e2), .int (nI t), .int (nI core)] [(r, .inr (9, [.ref lt, .int (nI xs.length)])), (lt, .inl (cy 0, R, .inl f)), (r2, .inr (9, [.ref lt2, .int (nI ys.length)])), (lt2, .inl (cy 0, R2, .inl g))] (fun (v : Int32) (_ : Unit) => (v = 1 ∧ It xs e1 ys e2 core t) ∨ (v = 0 ∧ ¬ It xs e1 ys e2 core t)) (fun _ => [(r, .inr (9, [.ref lt, .int (nI xs.length)])), (lt, .inl (cy 0, R, .inl f)), (r2, .inr (9, [.ref lt2, .int (nI ys.length)])), (lt2, .inl (cy 0, R2, .inl g))]) 0 0 0 0 := by
  refine Ki_of (cc := cX7_isTurned) (nL := 8) (by decide) rfl (Nat.le_of_ble_eq_true rfl) ?_
  intro p e s m args below meth c A C hnm
  refine j_lo (lo1 := [(0, .ref r), (1, .int (nI e1)), (2, .ref r2), (3, .int (nI e2)), (4, .int (nI t)), (5, .int (nI core))]) [0, 1, 2, 3, 4, 5] rfl ?_
  have lp : ∀ (d9 : Nat) (i : Nat), core - i < d9 → (i ≤ core ∧ ∀ i9, i9 < i → gd xs (e1 + i9) = gd ys (e2 + if i9 + t < core then i9 + t else i9 + t - core)) → J p l e (fz_rm 0 0 0 0) s m args below meth c (MQ below (va_Qi (fun (v : Int32) (_ : Unit) => (v = 1 ∧ It xs e1 ys e2 core t) ∨ (v = 0 ∧ ¬ It xs e1 ys e2 core t)) (fz_B G (fun _ => [(r, .inr (9, [.ref lt, .int (nI xs.length)])), (lt, .inl (cy 0, R, .inl f)), (r2, .inr (9, [.ref lt2, .int (nI ys.length)])), (lt2, .inl (cy 0, R2, .inl g))]) A) A) args s 0 0 A) G A 8 [(r, .inr (9, [.ref lt, .int (nI xs.length)])), (lt, .inl (cy 0, R, .inl f)), (r2, .inr (9, [.ref lt2, .int (nI ys.length)])), (lt2, .inl (cy 0, R2, .inl g))] 0 0 3 [(6, .int (nI i)), (1, .int (nI e1)), (3, .int (nI e2)), (4, .int (nI t)), (5, .int (nI core)), (0, .ref r), (2, .ref r2)] [] := by
    intro d9
    induction d9 with
    | zero => intro i hd9; exact absurd hd9 (Nat.not_lt_zero _)
    | succ d9 ih =>
      intro i hd9 hj
      refine j_iload C 0 rfl dX7_isTurned_3 ?_
      refine j_iload C 4 rfl dX7_isTurned_5 ?_
      refine j_icmp_ge C (P := core ≤ i) (nI_leI (by omega) (by omega)) (tgt := 67) (by decide) dX7_isTurned_7 (fun ha => ?_) (fun hb => ?_)
      · refine j_iconst C (v := (nI 1)) (by decide) dX7_isTurned_67 ?_
        exact j_iret C rfl (rfl) (()) (Or.inl ⟨rfl, fun i9 h9 => hj.2 i9 (by omega)⟩) [0, 1, 2, 3] rfl (by decide) (Nat.le_of_ble_eq_true rfl) (Nat.le_of_ble_eq_true rfl) dX7_isTurned_68
      · refine j_iload C 0 rfl dX7_isTurned_10 ?_
        refine j_iload C 3 rfl dX7_isTurned_12 ?_
        refine j_iadd C (v := (nI (i + t))) (fx_add i t) dX7_isTurned_14 ?_
        refine j_iload C 4 rfl dX7_isTurned_15 ?_
        refine j_icmp_ge C (P := core ≤ i + t) (nI_leI (by omega) (by omega)) (tgt := 28) (by decide) dX7_isTurned_17 (fun hc => ?_) (fun hd => ?_)
        · have l1 := h6 (e1 + i) (by omega)
          have l2 := hy6 (e2 + (i + t - core)) (by omega)
          have hix : (if i + t < core then i + t else i + t - core) = i + t - core := if_neg (by omega)
          refine j_iload C 0 rfl dX7_isTurned_28 ?_
          refine j_iload C 3 rfl dX7_isTurned_30 ?_
          refine j_iadd C (v := (nI (i + t))) (fx_add i t) dX7_isTurned_32 ?_
          refine j_iload C 4 rfl dX7_isTurned_33 ?_
          refine j_isub C (v := (nI (i + t - core))) (pk_sub (by omega)) dX7_isTurned_35 ?_
          refine j_istore C (lo1 := [(7, .int (nI (i + t - core))), (6, .int (nI i)), (1, .int (nI e1)), (3, .int (nI e2)), (4, .int (nI t)), (5, .int (nI core)), (0, .ref r), (2, .ref r2)]) (by decide) rfl dX7_isTurned_36 ?_
          refine j_aload_n C rfl 6 rfl dX7_isTurned_38 ?_
          refine j_getf C (Cn := RX7) (T := TX7) (N := 2) fin_X7_isTurned_RX7 0 rfl rfl 0 (by decide) (by decide +kernel) rfl dX7_isTurned_39 ?_
          refine j_iload_n C rfl 2 rfl dX7_isTurned_42 ?_
          refine j_iload C 1 rfl dX7_isTurned_43 ?_
          refine j_iadd C (v := (nI (e1 + i))) (fx_add e1 i) dX7_isTurned_45 ?_
          refine j_bald C 1 rfl (j := e1 + i) (by omega) (by omega) (v := (nI (gd xs (e1 + i)))) (hf _ (by omega)) dX7_isTurned_46 ?_
          refine j_aload_n C rfl 7 rfl dX7_isTurned_47 ?_
          refine j_getf C (Cn := RX7) (T := TX7) (N := 2) fin_X7_isTurned_RX7 2 rfl rfl 0 (by decide) (by decide +kernel) rfl dX7_isTurned_48 ?_
          refine j_iload_n C rfl 3 rfl dX7_isTurned_51 ?_
          refine j_iload C 0 rfl dX7_isTurned_52 ?_
          refine j_iadd C (v := (nI (e2 + (i + t - core)))) (fx_add e2 (i + t - core)) dX7_isTurned_54 ?_
          refine j_bald C 3 rfl (j := e2 + (i + t - core)) (by omega) (by omega) (v := (nI (gd ys (e2 + (i + t - core))))) (hg _ (by omega)) dX7_isTurned_55 ?_
          refine j_icmp_eq C (P := gd xs (e1 + i) = gd ys (e2 + (i + t - core))) (nI_eq (by omega) (by omega)) (tgt := 61) (by decide) dX7_isTurned_56 (fun he => ?_) (fun hn => ?_)
          · refine j_iinc C (v := (nI (i + 1))) (lo1 := [(6, .int (nI (i + 1))), (7, .int (nI (i + t - core))), (1, .int (nI e1)), (3, .int (nI e2)), (4, .int (nI t)), (5, .int (nI core)), (0, .ref r), (2, .ref r2)]) 1 rfl (fx_inc i 1) (by decide) rfl dX7_isTurned_61 ?_
            refine j_goto C (tgt := 3) (by decide) dX7_isTurned_64 ?_
            refine j_lo (lo1 := [(6, .int (nI (i + 1))), (1, .int (nI e1)), (3, .int (nI e2)), (4, .int (nI t)), (5, .int (nI core)), (0, .ref r), (2, .ref r2)]) [0, 2, 3, 4, 5, 6, 7] rfl ?_
            refine ih (i + 1) (by omega) ⟨by omega, fun i9 h9 => ?_⟩
            rcases Nat.lt_or_ge i9 i with z9 | z9
            · exact hj.2 i9 z9
            · rw [show i9 = i by omega, hix]; exact he
          · refine j_iconst C (v := (nI 0)) (by decide) dX7_isTurned_59 ?_
            exact j_iret C rfl (rfl) (()) (Or.inr ⟨rfl, fun z => hn (by have z2 := z i (by omega); rwa [hix] at z2)⟩) [0, 1, 2, 3] rfl (by decide) (Nat.le_of_ble_eq_true rfl) (Nat.le_of_ble_eq_true rfl) dX7_isTurned_60
        · have l1 := h6 (e1 + i) (by omega)
          have l2 := hy6 (e2 + (i + t)) (by omega)
          have hix : (if i + t < core then i + t else i + t - core) = i + t := if_pos (by omega)
          refine j_iload C 0 rfl dX7_isTurned_20 ?_
          refine j_iload C 3 rfl dX7_isTurned_22 ?_
          refine j_iadd C (v := (nI (i + t))) (fx_add i t) dX7_isTurned_24 ?_
          refine j_goto C (tgt := 36) (by decide) dX7_isTurned_25 ?_
          refine j_istore C (lo1 := [(7, .int (nI (i + t))), (6, .int (nI i)), (1, .int (nI e1)), (3, .int (nI e2)), (4, .int (nI t)), (5, .int (nI core)), (0, .ref r), (2, .ref r2)]) (by decide) rfl dX7_isTurned_36 ?_
          refine j_aload_n C rfl 6 rfl dX7_isTurned_38 ?_
          refine j_getf C (Cn := RX7) (T := TX7) (N := 2) fin_X7_isTurned_RX7 0 rfl rfl 0 (by decide) (by decide +kernel) rfl dX7_isTurned_39 ?_
          refine j_iload_n C rfl 2 rfl dX7_isTurned_42 ?_
          refine j_iload C 1 rfl dX7_isTurned_43 ?_
          refine j_iadd C (v := (nI (e1 + i))) (fx_add e1 i) dX7_isTurned_45 ?_
          refine j_bald C 1 rfl (j := e1 + i) (by omega) (by omega) (v := (nI (gd xs (e1 + i)))) (hf _ (by omega)) dX7_isTurned_46 ?_
          refine j_aload_n C rfl 7 rfl dX7_isTurned_47 ?_
          refine j_getf C (Cn := RX7) (T := TX7) (N := 2) fin_X7_isTurned_RX7 2 rfl rfl 0 (by decide) (by decide +kernel) rfl dX7_isTurned_48 ?_
          refine j_iload_n C rfl 3 rfl dX7_isTurned_51 ?_
          refine j_iload C 0 rfl dX7_isTurned_52 ?_
          refine j_iadd C (v := (nI (e2 + (i + t)))) (fx_add e2 (i + t)) dX7_isTurned_54 ?_
          refine j_bald C 3 rfl (j := e2 + (i + t)) (by omega) (by omega) (v := (nI (gd ys (e2 + (i + t))))) (hg _ (by omega)) dX7_isTurned_55 ?_
          refine j_icmp_eq C (P := gd xs (e1 + i) = gd ys (e2 + (i + t))) (nI_eq (by omega) (by omega)) (tgt := 61) (by decide) dX7_isTurned_56 (fun he => ?_) (fun hn => ?_)
          · refine j_iinc C (v := (nI (i + 1))) (lo1 := [(6, .int (nI (i + 1))), (7, .int (nI (i + t))), (1, .int (nI e1)), (3, .int (nI e2)), (4, .int (nI t)), (5, .int (nI core)), (0, .ref r), (2, .ref r2)]) 1 rfl (fx_inc i 1) (by decide) rfl dX7_isTurned_61 ?_
            refine j_goto C (tgt := 3) (by decide) dX7_isTurned_64 ?_
            refine j_lo (lo1 := [(6, .int (nI (i + 1))), (1, .int (nI e1)), (3, .int (nI e2)), (4, .int (nI t)), (5, .int (nI core)), (0, .ref r), (2, .ref r2)]) [0, 2, 3, 4, 5, 6, 7] rfl ?_
            refine ih (i + 1) (by omega) ⟨by omega, fun i9 h9 => ?_⟩
            rcases Nat.lt_or_ge i9 i with z9 | z9
            · exact hj.2 i9 z9
            · rw [show i9 = i by omega, hix]; exact he
          · refine j_iconst C (v := (nI 0)) (by decide) dX7_isTurned_59 ?_
            exact j_iret C rfl (rfl) (()) (Or.inr ⟨rfl, fun z => hn (by have z2 := z i (by omega); rwa [hix] at z2)⟩) [0, 1, 2, 3] rfl (by decide) (Nat.le_of_ble_eq_true rfl) (Nat.le_of_ble_eq_true rfl) dX7_isTurned_60
  refine j_iconst C (v := (nI 0)) (by decide) dX7_isTurned_0 ?_
  refine j_istore C (lo1 := [(6, .int (nI 0)), (0, .ref r), (1, .int (nI e1)), (2, .ref r2), (3, .int (nI e2)), (4, .int (nI t)), (5, .int (nI core))]) (by decide) rfl dX7_isTurned_1 ?_
  refine j_lo (lo1 := [(6, .int (nI 0)), (1, .int (nI e1)), (3, .int (nI e2)), (4, .int (nI t)), (5, .int (nI core)), (0, .ref r), (2, .ref r2)]) [0, 2, 4, 5, 6, 1, 3] rfl ?_
  exact lp (core + 1) 0 (by omega) ⟨by omega, fun i9 h9 => absurd h9 (by omega)⟩
theorem hdV_X7_coreSize : yX7_coreSize.cls = RX7 ∧ yX7_coreSize.cls ≠ "java/lang/invoke/MethodHandle" ∧ yX7_coreSize.cls ≠ "java/lang/invoke/VarHandle" ∧ (parseMethodDescriptor yX7_coreSize.desc).map (fun d => d.parameters.length) = some 0 := by decide +kernel
theorem hdV_X7_isTurned : yX7_isTurned.cls = RX7 ∧ yX7_isTurned.cls ≠ "java/lang/invoke/MethodHandle" ∧ yX7_isTurned.cls ≠ "java/lang/invoke/VarHandle" ∧ (parseMethodDescriptor yX7_isTurned.desc).map (fun d => d.parameters.length) = some 5 := by decide +kernel
set_option maxHeartbeats 4000000 in
set_option maxRecDepth 100000 in
/-- turnOfCore: found -/
theorem c_X7_turnOfCore {l : Launch} {G : va_G} {cy : Nat → ClassId} {r lt R r2 lt2 R2 : Nat} {xs ys : List Nat} {f g : Nat → Int32} (hR : R < 2 ^ 20) (hR2 : R2 < 2 ^ 20) {e1 e2 t core : Nat} (he1 : IsE xs e1) (he2 : IsE ys e2) (hc1 : xs.length = 2 * e1 + core) (hc2 : ys.length = 2 * e2 + core) (hT : IsT xs e1 ys e2 core t) (h6 : L6 xs) (hy6 : L6 ys) (hf : Hd f xs) (hg : Hd g ys) (hxR : xs.length ≤ R) (hyR : ys.length ≤ R2)  : Ki l yX7_turnOfCore wsX7_turnOfCore G cy [.ref r, .ref r2] [(r, .inr (9, [.ref lt, .int (nI xs.length)])), (lt, .inl (cy 0, R, .inl f)), (r2, .inr (9, [.ref lt2, .int (nI ys.length)])), (lt2, .inl (cy 0, R2, .inl g))] (fun (v : Int32) (_ : Unit) => v = nI t) (fun _ => [(r, .inr (9, [.ref lt, .int (nI xs.length)])), (lt, .inl (cy 0, R, .inl f)), (r2, .inr (9, [.ref lt2, .int (nI ys.length)])), (lt2, .inl (cy 0, R2, .inl g))]) 2 0 0 41 := by
  refine Ki_of (cc := cX7_turnOfCore) (nL := 4) (by decide) rfl (Nat.le_of_ble_eq_true rfl) ?_
  intro p e s m args below meth c A C hnm
  refine j_lo (lo1 := [(0, .ref r), (1, .ref r2)]) [0, 1] rfl ?_
  have ht8 := hT.1
  have hle1 := IsE_le he1
  have hle2 := IsE_le he2
  refine j_aload_n C rfl 0 rfl dX7_turnOfCore_0 ?_
  refine j_resi (k1 := 0) (n1 := 0) C (j_runV C (c_X7_coreSize hR he1 h6 hf hxR) gX7_turnOfCore_X7_coreSize rfl hdV_X7_coreSize ⟨Nat.le_of_ble_eq_true rfl, Nat.le_of_ble_eq_true rfl⟩ ⟨Nat.le_of_ble_eq_true rfl, Nat.le_of_ble_eq_true rfl⟩ 0 rfl rfl rfl [0, 1] rfl (by decide) rfl (Nat.le_of_ble_eq_true rfl) dX7_turnOfCore_1) (wr := [(r2, .inr (9, [.ref lt2, .int (nI ys.length)])), (lt2, .inl (cy 0, R2, .inl g))]) [2, 3] rfl (by decide) (by decide) (Nat.le_refl _) (Nat.le_refl _) (fun v u hv => ?_)
  subst hv
  refine j_ws (ws1 := [(r, .inr (9, [.ref lt, .int (nI xs.length)])), (lt, .inl (cy 0, R, .inl f)), (r2, .inr (9, [.ref lt2, .int (nI ys.length)])), (lt2, .inl (cy 0, R2, .inl g))]) [2, 3, 0, 1] rfl (by decide) ?_
  refine j_istore_n C (lo1 := [(2, .int (nI (xs.length - 2 * e1))), (0, .ref r), (1, .ref r2)]) rfl (by decide) rfl dX7_turnOfCore_4 ?_
  refine j_iload_n C rfl 0 rfl dX7_turnOfCore_5 ?_
  refine j_aload_n C rfl 2 rfl dX7_turnOfCore_6 ?_
  refine j_resi (k1 := 0) (n1 := 0) C (j_runV C (c_X7_coreSize hR2 he2 hy6 hg hyR) gX7_turnOfCore_X7_coreSize rfl hdV_X7_coreSize ⟨Nat.le_of_ble_eq_true rfl, Nat.le_of_ble_eq_true rfl⟩ ⟨Nat.le_of_ble_eq_true rfl, Nat.le_of_ble_eq_true rfl⟩ 2 rfl rfl rfl [2, 3] rfl (by decide) rfl (Nat.le_of_ble_eq_true rfl) dX7_turnOfCore_7) (wr := [(r, .inr (9, [.ref lt, .int (nI xs.length)])), (lt, .inl (cy 0, R, .inl f))]) [0, 1] rfl (by decide) (by decide) (Nat.le_refl _) (Nat.le_refl _) (fun v u hv => ?_)
  subst hv
  refine j_ws (ws1 := [(r, .inr (9, [.ref lt, .int (nI xs.length)])), (lt, .inl (cy 0, R, .inl f)), (r2, .inr (9, [.ref lt2, .int (nI ys.length)])), (lt2, .inl (cy 0, R2, .inl g))]) [0, 1, 2, 3] rfl (by decide) ?_
  refine j_icmp_eq C (P := xs.length - 2 * e1 = ys.length - 2 * e2) (nI_eq (by omega) (by omega)) (tgt := 15) (by decide) dX7_turnOfCore_10 (fun ht => ?_) (fun hq => absurd hq (by omega))
  refine j_iload_n C rfl 0 rfl dX7_turnOfCore_15 ?_
  refine j_if_ne C (P := xs.length - 2 * e1 = 0) (fx_eq0 (by omega)) (tgt := 21) (by decide) dX7_turnOfCore_16 (fun ha => ?_) (fun hb => absurd hb (by omega))
  refine j_iconst C (v := (nI 0)) (by decide) dX7_turnOfCore_21 ?_
  refine j_istore_n C (lo1 := [(3, .int (nI 0)), (2, .int (nI (xs.length - 2 * e1))), (0, .ref r), (1, .ref r2)]) rfl (by decide) rfl dX7_turnOfCore_22 ?_
  have hco : xs.length - 2 * e1 = core := by omega
  refine j_leq (lo1 := [(3, .int (nI 0)), (2, .int (nI core)), (0, .ref r), (1, .ref r2)]) (by rw [hco]) ?_
  refine j_lo (lo1 := [(3, .int (nI 0)), (2, .int (nI core)), (0, .ref r), (1, .ref r2)]) [0, 1, 2, 3] rfl ?_
  have ht9 := hT.1
  have lp : ∀ (d9 : Nat) (i : Nat), core - i < d9 → (i ≤ t) → J p l e (fz_rm 2 0 0 41) s m args below meth c (MQ below (va_Qi (fun (v : Int32) (_ : Unit) => v = nI t) (fz_B G (fun _ => [(r, .inr (9, [.ref lt, .int (nI xs.length)])), (lt, .inl (cy 0, R, .inl f)), (r2, .inr (9, [.ref lt2, .int (nI ys.length)])), (lt2, .inl (cy 0, R2, .inl g))]) A) A) args s 0 0 A) G A 4 [(r, .inr (9, [.ref lt, .int (nI xs.length)])), (lt, .inl (cy 0, R, .inl f)), (r2, .inr (9, [.ref lt2, .int (nI ys.length)])), (lt2, .inl (cy 0, R2, .inl g))] 0 0 23 [(3, .int (nI i)), (2, .int (nI core)), (0, .ref r), (1, .ref r2)] [] := by
    intro d9
    induction d9 with
    | zero => intro i hd9; exact absurd hd9 (Nat.not_lt_zero _)
    | succ d9 ih =>
      intro i hd9 hi
      refine j_iload_n C rfl 0 rfl dX7_turnOfCore_23 ?_
      refine j_iload_n C rfl 1 rfl dX7_turnOfCore_24 ?_
      refine j_icmp_ge C (P := core ≤ i) (nI_leI (by omega) (by omega)) (tgt := 54) (by decide) dX7_turnOfCore_25 (fun ha => absurd ha (by omega)) (fun hb => ?_)
      refine j_aload_n C rfl 2 rfl dX7_turnOfCore_28 ?_
      refine j_aload_n C rfl 2 rfl dX7_turnOfCore_29 ?_
      refine j_resi (k1 := 0) (n1 := 0) C (j_runV C (c_X7_coreStart hR he1 h6 hf hxR) gX7_turnOfCore_X7_coreStart rfl hdV_X7_coreStart ⟨Nat.le_of_ble_eq_true rfl, Nat.le_of_ble_eq_true rfl⟩ ⟨Nat.le_of_ble_eq_true rfl, Nat.le_of_ble_eq_true rfl⟩ 0 rfl rfl rfl [0, 1] rfl (by decide) rfl (Nat.le_of_ble_eq_true rfl) dX7_turnOfCore_30) (wr := [(r2, .inr (9, [.ref lt2, .int (nI ys.length)])), (lt2, .inl (cy 0, R2, .inl g))]) [2, 3] rfl (by decide) (by decide) (Nat.le_refl _) (Nat.le_refl _) (fun v u hv => ?_)
      subst hv
      refine j_ws (ws1 := [(r, .inr (9, [.ref lt, .int (nI xs.length)])), (lt, .inl (cy 0, R, .inl f)), (r2, .inr (9, [.ref lt2, .int (nI ys.length)])), (lt2, .inl (cy 0, R2, .inl g))]) [2, 3, 0, 1] rfl (by decide) ?_
      refine j_aload_n C rfl 3 rfl dX7_turnOfCore_33 ?_
      refine j_aload_n C rfl 3 rfl dX7_turnOfCore_34 ?_
      refine j_resi (k1 := 0) (n1 := 0) C (j_runV C (c_X7_coreStart hR2 he2 hy6 hg hyR) gX7_turnOfCore_X7_coreStart rfl hdV_X7_coreStart ⟨Nat.le_of_ble_eq_true rfl, Nat.le_of_ble_eq_true rfl⟩ ⟨Nat.le_of_ble_eq_true rfl, Nat.le_of_ble_eq_true rfl⟩ 2 rfl rfl rfl [2, 3] rfl (by decide) rfl (Nat.le_of_ble_eq_true rfl) dX7_turnOfCore_35) (wr := [(r, .inr (9, [.ref lt, .int (nI xs.length)])), (lt, .inl (cy 0, R, .inl f))]) [0, 1] rfl (by decide) (by decide) (Nat.le_refl _) (Nat.le_refl _) (fun v u hv => ?_)
      subst hv
      refine j_ws (ws1 := [(r, .inr (9, [.ref lt, .int (nI xs.length)])), (lt, .inl (cy 0, R, .inl f)), (r2, .inr (9, [.ref lt2, .int (nI ys.length)])), (lt2, .inl (cy 0, R2, .inl g))]) [0, 1, 2, 3] rfl (by decide) ?_
      refine j_iload_n C rfl 0 rfl dX7_turnOfCore_38 ?_
      refine j_iload_n C rfl 1 rfl dX7_turnOfCore_39 ?_
      refine j_resi (k1 := 0) (n1 := 0) C (j_runV C (c_X7_isTurned (t := i) hR hR2 (by omega) (by omega) (by omega) h6 hy6 hf hg hxR hyR) gX7_turnOfCore_X7_isTurned rfl hdV_X7_isTurned ⟨Nat.le_of_ble_eq_true rfl, Nat.le_of_ble_eq_true rfl⟩ ⟨Nat.le_of_ble_eq_true rfl, Nat.le_of_ble_eq_true rfl⟩ 0 rfl rfl rfl [0, 1, 2, 3] rfl (by decide) rfl (Nat.le_of_ble_eq_true rfl) dX7_turnOfCore_40) (wr := []) [] rfl (by decide) (by decide) (Nat.le_refl _) (Nat.le_refl _) (fun v u hv => ?_)
      rcases hv with ⟨rfl, hv⟩ | ⟨rfl, hv⟩
      · refine j_if_eq C (P := False) (by decide) (tgt := 48) (by decide) dX7_turnOfCore_43 (fun h9 => h9.elim) (fun _ => ?_)
        have hit : i = t := Nat.le_antisymm hi (Nat.le_of_not_lt fun z => hT.2.2 i z hv)
        subst hit
        refine j_iload_n C rfl 0 rfl dX7_turnOfCore_46 ?_
        exact j_iret C rfl (rfl) (()) (rfl) [0, 1, 2, 3] rfl (by decide) (Nat.le_of_ble_eq_true rfl) (Nat.le_of_ble_eq_true rfl) dX7_turnOfCore_47
      · refine j_if_eq C (P := True) (by decide) (tgt := 48) (by decide) dX7_turnOfCore_43 (fun _ => ?_) (fun h9 => absurd trivial h9)
        have hit : i ≠ t := fun z => hv (by rw [z]; exact hT.2.1)
        refine j_iinc C (v := (nI (i + 1))) (lo1 := [(3, .int (nI (i + 1))), (2, .int (nI core)), (0, .ref r), (1, .ref r2)]) 0 rfl (fx_inc i 1) (by decide) rfl dX7_turnOfCore_48 ?_
        refine j_goto C (tgt := 23) (by decide) dX7_turnOfCore_51 ?_
        refine j_lo (lo1 := [(3, .int (nI (i + 1))), (2, .int (nI core)), (0, .ref r), (1, .ref r2)]) [0, 1, 2, 3] rfl ?_
        exact ih (i + 1) (by omega) (by omega)
  exact lp (core + 1) 0 (by omega) (by omega)
set_option maxHeartbeats 4000000 in
set_option maxRecDepth 100000 in
/-- turnOfCore: no core -/
theorem c_X7_turnOfCore0 {l : Launch} {G : va_G} {cy : Nat → ClassId} {r lt R r2 lt2 R2 : Nat} {xs ys : List Nat} {f g : Nat → Int32} (hR : R < 2 ^ 20) (hR2 : R2 < 2 ^ 20) {e1 e2 : Nat} (he1 : IsE xs e1) (he2 : IsE ys e2) (hc1 : xs.length = 2 * e1) (hc2 : ys.length = 2 * e2) (h6 : L6 xs) (hy6 : L6 ys) (hf : Hd f xs) (hg : Hd g ys) (hxR : xs.length ≤ R) (hyR : ys.length ≤ R2)  : Ki l yX7_turnOfCore wsX7_turnOfCore G cy [.ref r, .ref r2] [(r, .inr (9, [.ref lt, .int (nI xs.length)])), (lt, .inl (cy 0, R, .inl f)), (r2, .inr (9, [.ref lt2, .int (nI ys.length)])), (lt2, .inl (cy 0, R2, .inl g))] (fun (v : Int32) (_ : Unit) => v = nI 0) (fun _ => [(r, .inr (9, [.ref lt, .int (nI xs.length)])), (lt, .inl (cy 0, R, .inl f)), (r2, .inr (9, [.ref lt2, .int (nI ys.length)])), (lt2, .inl (cy 0, R2, .inl g))]) 2 0 0 41 := by
  refine Ki_of (cc := cX7_turnOfCore) (nL := 4) (by decide) rfl (Nat.le_of_ble_eq_true rfl) ?_
  intro p e s m args below meth c A C hnm
  refine j_lo (lo1 := [(0, .ref r), (1, .ref r2)]) [0, 1] rfl ?_
  have hle1 := IsE_le he1
  have hle2 := IsE_le he2
  refine j_aload_n C rfl 0 rfl dX7_turnOfCore_0 ?_
  refine j_resi (k1 := 0) (n1 := 0) C (j_runV C (c_X7_coreSize hR he1 h6 hf hxR) gX7_turnOfCore_X7_coreSize rfl hdV_X7_coreSize ⟨Nat.le_of_ble_eq_true rfl, Nat.le_of_ble_eq_true rfl⟩ ⟨Nat.le_of_ble_eq_true rfl, Nat.le_of_ble_eq_true rfl⟩ 0 rfl rfl rfl [0, 1] rfl (by decide) rfl (Nat.le_of_ble_eq_true rfl) dX7_turnOfCore_1) (wr := [(r2, .inr (9, [.ref lt2, .int (nI ys.length)])), (lt2, .inl (cy 0, R2, .inl g))]) [2, 3] rfl (by decide) (by decide) (Nat.le_refl _) (Nat.le_refl _) (fun v u hv => ?_)
  subst hv
  refine j_ws (ws1 := [(r, .inr (9, [.ref lt, .int (nI xs.length)])), (lt, .inl (cy 0, R, .inl f)), (r2, .inr (9, [.ref lt2, .int (nI ys.length)])), (lt2, .inl (cy 0, R2, .inl g))]) [2, 3, 0, 1] rfl (by decide) ?_
  refine j_istore_n C (lo1 := [(2, .int (nI (xs.length - 2 * e1))), (0, .ref r), (1, .ref r2)]) rfl (by decide) rfl dX7_turnOfCore_4 ?_
  refine j_iload_n C rfl 0 rfl dX7_turnOfCore_5 ?_
  refine j_aload_n C rfl 2 rfl dX7_turnOfCore_6 ?_
  refine j_resi (k1 := 0) (n1 := 0) C (j_runV C (c_X7_coreSize hR2 he2 hy6 hg hyR) gX7_turnOfCore_X7_coreSize rfl hdV_X7_coreSize ⟨Nat.le_of_ble_eq_true rfl, Nat.le_of_ble_eq_true rfl⟩ ⟨Nat.le_of_ble_eq_true rfl, Nat.le_of_ble_eq_true rfl⟩ 2 rfl rfl rfl [2, 3] rfl (by decide) rfl (Nat.le_of_ble_eq_true rfl) dX7_turnOfCore_7) (wr := [(r, .inr (9, [.ref lt, .int (nI xs.length)])), (lt, .inl (cy 0, R, .inl f))]) [0, 1] rfl (by decide) (by decide) (Nat.le_refl _) (Nat.le_refl _) (fun v u hv => ?_)
  subst hv
  refine j_ws (ws1 := [(r, .inr (9, [.ref lt, .int (nI xs.length)])), (lt, .inl (cy 0, R, .inl f)), (r2, .inr (9, [.ref lt2, .int (nI ys.length)])), (lt2, .inl (cy 0, R2, .inl g))]) [0, 1, 2, 3] rfl (by decide) ?_
  refine j_icmp_eq C (P := xs.length - 2 * e1 = ys.length - 2 * e2) (nI_eq (by omega) (by omega)) (tgt := 15) (by decide) dX7_turnOfCore_10 (fun ht => ?_) (fun hq => absurd hq (by omega))
  refine j_iload_n C rfl 0 rfl dX7_turnOfCore_15 ?_
  refine j_if_ne C (P := xs.length - 2 * e1 = 0) (fx_eq0 (by omega)) (tgt := 21) (by decide) dX7_turnOfCore_16 (fun ha => absurd ha (by omega)) (fun hb => ?_)
  refine j_iconst C (v := (nI 0)) (by decide) dX7_turnOfCore_19 ?_
  exact j_iret C rfl (rfl) (()) (rfl) [0, 1, 2, 3] rfl (by decide) (Nat.le_of_ble_eq_true rfl) (Nat.le_of_ble_eq_true rfl) dX7_turnOfCore_20
set_option maxHeartbeats 4000000 in
set_option maxRecDepth 100000 in
/-- turnOfCore: cores of another length -/
theorem c_X7_turnOfCoreN {l : Launch} {G : va_G} {cy : Nat → ClassId} {r lt R r2 lt2 R2 : Nat} {xs ys : List Nat} {f g : Nat → Int32} (hR : R < 2 ^ 20) (hR2 : R2 < 2 ^ 20) {e1 e2 : Nat} (he1 : IsE xs e1) (he2 : IsE ys e2) (hcn : xs.length - 2 * e1 ≠ ys.length - 2 * e2) (h6 : L6 xs) (hy6 : L6 ys) (hf : Hd f xs) (hg : Hd g ys) (hxR : xs.length ≤ R) (hyR : ys.length ≤ R2)  : Ki l yX7_turnOfCore wsX7_turnOfCore G cy [.ref r, .ref r2] [(r, .inr (9, [.ref lt, .int (nI xs.length)])), (lt, .inl (cy 0, R, .inl f)), (r2, .inr (9, [.ref lt2, .int (nI ys.length)])), (lt2, .inl (cy 0, R2, .inl g))] (fun (v : Int32) (_ : Unit) => v = -1) (fun _ => [(r, .inr (9, [.ref lt, .int (nI xs.length)])), (lt, .inl (cy 0, R, .inl f)), (r2, .inr (9, [.ref lt2, .int (nI ys.length)])), (lt2, .inl (cy 0, R2, .inl g))]) 2 0 0 41 := by
  refine Ki_of (cc := cX7_turnOfCore) (nL := 4) (by decide) rfl (Nat.le_of_ble_eq_true rfl) ?_
  intro p e s m args below meth c A C hnm
  refine j_lo (lo1 := [(0, .ref r), (1, .ref r2)]) [0, 1] rfl ?_
  have hle1 := IsE_le he1
  have hle2 := IsE_le he2
  refine j_aload_n C rfl 0 rfl dX7_turnOfCore_0 ?_
  refine j_resi (k1 := 0) (n1 := 0) C (j_runV C (c_X7_coreSize hR he1 h6 hf hxR) gX7_turnOfCore_X7_coreSize rfl hdV_X7_coreSize ⟨Nat.le_of_ble_eq_true rfl, Nat.le_of_ble_eq_true rfl⟩ ⟨Nat.le_of_ble_eq_true rfl, Nat.le_of_ble_eq_true rfl⟩ 0 rfl rfl rfl [0, 1] rfl (by decide) rfl (Nat.le_of_ble_eq_true rfl) dX7_turnOfCore_1) (wr := [(r2, .inr (9, [.ref lt2, .int (nI ys.length)])), (lt2, .inl (cy 0, R2, .inl g))]) [2, 3] rfl (by decide) (by decide) (Nat.le_refl _) (Nat.le_refl _) (fun v u hv => ?_)
  subst hv
  refine j_ws (ws1 := [(r, .inr (9, [.ref lt, .int (nI xs.length)])), (lt, .inl (cy 0, R, .inl f)), (r2, .inr (9, [.ref lt2, .int (nI ys.length)])), (lt2, .inl (cy 0, R2, .inl g))]) [2, 3, 0, 1] rfl (by decide) ?_
  refine j_istore_n C (lo1 := [(2, .int (nI (xs.length - 2 * e1))), (0, .ref r), (1, .ref r2)]) rfl (by decide) rfl dX7_turnOfCore_4 ?_
  refine j_iload_n C rfl 0 rfl dX7_turnOfCore_5 ?_
  refine j_aload_n C rfl 2 rfl dX7_turnOfCore_6 ?_
  refine j_resi (k1 := 0) (n1 := 0) C (j_runV C (c_X7_coreSize hR2 he2 hy6 hg hyR) gX7_turnOfCore_X7_coreSize rfl hdV_X7_coreSize ⟨Nat.le_of_ble_eq_true rfl, Nat.le_of_ble_eq_true rfl⟩ ⟨Nat.le_of_ble_eq_true rfl, Nat.le_of_ble_eq_true rfl⟩ 2 rfl rfl rfl [2, 3] rfl (by decide) rfl (Nat.le_of_ble_eq_true rfl) dX7_turnOfCore_7) (wr := [(r, .inr (9, [.ref lt, .int (nI xs.length)])), (lt, .inl (cy 0, R, .inl f))]) [0, 1] rfl (by decide) (by decide) (Nat.le_refl _) (Nat.le_refl _) (fun v u hv => ?_)
  subst hv
  refine j_ws (ws1 := [(r, .inr (9, [.ref lt, .int (nI xs.length)])), (lt, .inl (cy 0, R, .inl f)), (r2, .inr (9, [.ref lt2, .int (nI ys.length)])), (lt2, .inl (cy 0, R2, .inl g))]) [0, 1, 2, 3] rfl (by decide) ?_
  refine j_icmp_eq C (P := xs.length - 2 * e1 = ys.length - 2 * e2) (nI_eq (by omega) (by omega)) (tgt := 15) (by decide) dX7_turnOfCore_10 (fun ht => absurd ht (by omega)) (fun hq => ?_)
  refine j_iconst C (v := (-1)) (by decide) dX7_turnOfCore_13 ?_
  exact j_iret C rfl (rfl) (()) (rfl) [0, 1, 2, 3] rfl (by decide) (Nat.le_of_ble_eq_true rfl) (Nat.le_of_ble_eq_true rfl) dX7_turnOfCore_14
end
section
section FZT
variable {p : Program} {l : Launch} {e : Env} {R : Room} {s : State} {m : MethodId} {args : Array Value} {below : List Frame} {meth : Method} {c : Code} {Q : State → Prop} {G : va_G} {cy : Nat → ClassId} {A : Nat → Prop} {nL : Nat} {cc : ByteArray} {Ts : List Cond} {own : String} {ret : Option FieldType}
variable {ws : va_W} {k n pc : Nat} {lo : List (Nat × Value)} {st : List Value}
theorem fz_Dperm {w1 w2 : va_W} {A : Nat → Prop} (hp : w1.Perm w2) (h : va_D A w1) : va_D A w2 := by
  have hn : ∀ {w : va_W}, va_D A w ↔ (w.map (fun q => q.1)).Nodup ∧ ∀ q ∈ w, A q.1 := by
    intro w
    constructor
    · intro h
      refine ⟨?_, fun q hq => ?_⟩
      · rw [List.nodup_iff_pairwise_ne, List.pairwise_iff_getElem]
        intro i j hi hj hij z
        simp only [List.getElem_map] at z
        rw [List.length_map] at hi hj
        have z2 := h.1 i j _ _ (List.getElem?_eq_getElem hi) (List.getElem?_eq_getElem hj) z
        omega
      · obtain ⟨i, hi⟩ := List.getElem?_of_mem hq
        exact h.2 i q hi
    · rintro ⟨h1, h2⟩
      refine ⟨fun i j x y hi hj hxy => ?_, fun i q hq => h2 q (List.mem_of_getElem? hq)⟩
      rw [List.nodup_iff_pairwise_ne, List.pairwise_iff_getElem] at h1
      obtain ⟨li, ei⟩ := List.getElem?_eq_some_iff.mp hi
      obtain ⟨lj, ej⟩ := List.getElem?_eq_some_iff.mp hj
      rcases Nat.lt_trichotomy i j with z | z | z
      · exact (h1 i j (by rw [List.length_map]; exact li) (by rw [List.length_map]; exact lj) z (by simp only [List.getElem_map]; rw [ei, ej]; exact hxy)).elim
      · exact z
      · exact (h1 j i (by rw [List.length_map]; exact lj) (by rw [List.length_map]; exact li) z (by simp only [List.getElem_map]; rw [ei, ej]; exact hxy.symm)).elim
  rw [hn] at h ⊢
  exact ⟨(hp.map _).nodup_iff.mp h.1, fun q hq => h.2 q (hp.mem_iff.mpr hq)⟩
theorem fz_Pmem {w1 w2 : va_W} {H : Heap} (h : ∀ q ∈ w2, q ∈ w1) (hP : va_P G vwCl w1 H) : va_P G vwCl w2 H := fun i q hq => by
  obtain ⟨j, hj⟩ := List.getElem?_of_mem (h q (List.mem_of_getElem? hq))
  exact hP j q hj
/-- the cells in another order -/
theorem j_perm {ws1 : va_W} (h : ws.Perm ws1) (kk : J p l e R s m args below meth c Q G A nL ws1 k n pc lo st) : J p l e R s m args below meth c Q G A nL ws k n pc lo st := fun H locs ls hP hD hS hl => kk H locs ls (fz_Pmem (fun q hq => h.mem_iff.mpr hq) hP) (fz_Dperm h hD) hS hl
theorem j_swap {a tl b : va_W} (kk : J p l e R s m args below meth c Q G A nL (a ++ b ++ tl) k n pc lo st) : J p l e R s m args below meth c Q G A nL (a ++ tl ++ b) k n pc lo st := j_perm (by rw [List.append_assoc, List.append_assoc]; exact List.Perm.append_left a List.perm_append_comm) kk
/-- behind a call of a method that answers nothing, with cells that it doesn't take and nobody counts -/
theorem j_resvt (C : fz_C p c s m args nL cc Ts own meth ret G cy A) {S : Type} {po : S → Prop} {w1 : S → va_W} {wc wr tl : va_W} {isC : List Nat} {mc ms k1 n1 : Nat} {st0 : List Value} {av : Array Value} (h : JR p l e R s m args below meth c G A nL (ws ++ tl) wc isC k n mc ms pc lo st st0 (fun sz => va_Qv po (fz_B G w1 (va_A wc sz)) (va_A wc sz) av)) (isR : List Nat) (hR : isR.map (fun i => ws[i]?) = wr.map some) (hn : va_nd isR = true) (hdis : ∀ i ∈ isR, i ∉ isC) (hC : ∀ i ∈ isC, i < ws.length) (hk1 : k + mc ≤ k1) (hn1 : n + ms ≤ n1)
    (kk : ∀ (u : S), po u → J p l e R s m args below meth c Q G A nL (wr ++ w1 u ++ tl) k1 n1 (pc + 3) lo st) : J p l e R s m args below meth c Q G A nL (ws ++ tl) k n pc lo st0 := by
  have hR9 : (isR ++ (List.range tl.length).map (fun i => ws.length + i)).map (fun i => (ws ++ tl)[i]?) = (wr ++ tl).map some := by
    rw [List.map_append, List.map_append]
    congr 1
    · rw [← hR]
      refine List.map_congr_left fun i hi => ?_
      have h1 : (ws[i]?).isSome = true := by
        have h2 : ws[i]? ∈ wr.map some := by rw [← hR]; exact List.mem_map_of_mem hi
        obtain ⟨x, -, hx⟩ := List.mem_map.mp h2
        rw [← hx]; rfl
      have h3 : i < ws.length := by
        rcases Nat.lt_or_ge i ws.length with z | z
        · exact z
        · rw [List.getElem?_eq_none z] at h1; cases h1
      exact List.getElem?_append_left h3
    · refine List.ext_getElem? fun i => ?_
      rw [List.map_map, List.getElem?_map, List.getElem?_map]
      rcases Nat.lt_or_ge i tl.length with z | z
      · rw [List.getElem?_range z]
        simp only [Option.map_some, Function.comp_apply]
        rw [List.getElem?_append_right (by omega), Nat.add_sub_cancel_left, List.getElem?_eq_getElem z]; rfl
      · rw [List.getElem?_eq_none (by simpa using z), List.getElem?_eq_none z]; rfl
  have hdis9 : ∀ i ∈ isR ++ (List.range tl.length).map (fun i => ws.length + i), i ∉ isC := by
    intro i hi
    rcases List.mem_append.mp hi with z | z
    · exact hdis i z
    · obtain ⟨j, -, rfl⟩ := List.mem_map.mp z
      exact fun q => by have := hC _ q; omega
  intro H locs ls hP hD hS hl
  have hF := va_free (wc := wc) hD hS C.2.2.2.2.1 isC h.1
  refine va_callv (h.2 H locs ls hP hD hS hl) hS (fun q _ z => hF q z) hF (fun u t H1 locs1 ht hvm hp hB hz hk hS1 => ?_)
  obtain ⟨hP1, hD1⟩ := hB
  rw [ht] at hP1
  have hnd : va_nd (isR ++ (List.range tl.length).map (fun i => ws.length + i)) = true := by
    have key : ∀ l : List Nat, l.Nodup → va_nd l = true := by
      intro l
      induction l with
      | nil => intro _; rfl
      | cons a l ih => intro h; rw [List.nodup_cons] at h; simp only [va_nd, Bool.and_eq_true, decide_eq_true_eq]; exact ⟨h.1, ih h.2⟩
    have key2 : ∀ l : List Nat, va_nd l = true → l.Nodup := by
      intro l
      induction l with
      | nil => intro _; exact List.nodup_nil
      | cons a l ih => intro h; simp only [va_nd, Bool.and_eq_true, decide_eq_true_eq] at h; exact List.nodup_cons.mpr ⟨h.1, ih h.2⟩
    refine key _ (List.nodup_append.mpr ⟨key2 _ hn, ?_, ?_⟩)
    · rw [List.nodup_iff_pairwise_ne, List.pairwise_map]
      exact List.Pairwise.imp (fun {a b} h => by omega) (List.nodup_iff_pairwise_ne.mp List.nodup_range)
    · intro a ha b hb hab
      obtain ⟨j, -, rfl⟩ := List.mem_map.mp hb
      have h2 : ws[a]? ∈ wr.map some := by rw [← hR]; exact List.mem_map_of_mem ha
      obtain ⟨x, -, hx⟩ := List.mem_map.mp h2
      have h3 := (List.getElem?_eq_some_iff.mp hx.symm).1
      omega
  obtain ⟨a1, a2⟩ := fz_behind C.2.2.2.2.1 h.1 hP hD hS _ hR9 hnd hdis9 hk hP1 hD1
  have hperm : (wr ++ tl ++ w1 u).Perm (wr ++ w1 u ++ tl) := by rw [List.append_assoc, List.append_assoc]; exact List.Perm.append_left wr List.perm_append_comm
  exact W.widen hk1 hn1 (kk u hp H1 locs1 ls (fz_Pmem (fun q hq => hperm.mem_iff.mpr hq) a1) (fz_Dperm hperm a2) hS1 hl)
end FZT
end
section
set_option maxRecDepth 100000 in
theorem fin_X1_init_RX1 : ∀ w ∈ u_ws RX1 TX1 7, w ∈ wsX1_init := by decide +kernel
set_option maxRecDepth 100000 in
theorem fin_X1_init_RX7 : ∀ w ∈ u_ws RX7 TX7 2, w ∈ wsX1_init := by decide +kernel
theorem hdS_X7_init : yX7_init.cls ≠ "java/lang/invoke/MethodHandle" ∧ yX7_init.cls ≠ "java/lang/invoke/VarHandle" ∧ (parseMethodDescriptor yX7_init.desc).map (fun d => d.parameters.length) = some 1 := by decide +kernel
set_option maxHeartbeats 4000000 in
set_option maxRecDepth 100000 in
/-- Graph() -/
theorem c_X1_init {l : Launch} {G : va_G} {cy : Nat → ClassId} {h : Nat} : Kv l yX1_init wsX1_init G cy [.ref h] [(h, .inr (3, [.null, .null, .null, .null, .null, .int (nI 0), .int (nI 0)]))] (fun (_ : Unit) => True) (fun _ => []) 2 6 482 41 := by
  refine Kv_of (cc := cX1_init) (nL := 1) (by decide) rfl (Nat.le_of_ble_eq_true rfl) ?_
  intro p e s m args below meth c A C hnm
  refine j_lo (lo1 := [(0, .ref h)]) [0] rfl ?_
  refine j_aload_n C rfl 0 rfl dX1_init_0 ?_
  refine j_oinit C (by decide +kernel) (by decide +kernel) (by decide +kernel) (Nat.le_of_ble_eq_true rfl) (Nat.le_of_ble_eq_true rfl) dX1_init_1 ?_
  refine j_aload_n C rfl 0 rfl dX1_init_4 ?_
  refine j_sipush C (v := (nI 240)) (by decide +kernel) dX1_init_5 ?_
  refine j_newa C (at9 := .int) 1 (by decide +kernel) rfl rfl (N := 240) (a0 := (240, .inl (fun _ => 0))) (k1 := 1) (n1 := 240) (fun _ => rfl) (nI_pos (Nat.le_of_ble_eq_true rfl)) (nI_clamp (Nat.le_of_ble_eq_true rfl)) (Nat.le_of_ble_eq_true rfl) (Nat.le_of_ble_eq_true rfl) (Nat.le_of_ble_eq_true rfl) (Nat.le_refl _) (Nat.le_refl _) dX1_init_8 (fun q1 => ?_)
  refine j_putF C (Cn := RX1) (T := TX1) (ty := tyX1) (N := 7) (ws1 := [(h, .inr (3, [.ref q1, .null, .null, .null, .null, .int (nI 0), .int (nI 0)])), (q1, .inl (cy 1, 240, .inl (fun _ => 0)))]) fin_X1_init_RX1 tyX1_ok nmX1 0 rfl rfl 0 (by decide) (by decide +kernel) rfl hnm rfl rfl rfl (Nat.le_of_ble_eq_true rfl) rfl dX1_init_10 ?_
  refine j_ws (ws1 := [(h, .inr (3, [.ref q1, .null, .null, .null, .null, .int (nI 0), .int (nI 0)]))]) [0] rfl (by decide) ?_
  refine j_aload_n C rfl 0 rfl dX1_init_13 ?_
  refine j_bipush C (v := (nI 40)) (by decide +kernel) dX1_init_14 ?_
  refine j_newa C (at9 := .int) 1 (by decide +kernel) rfl rfl (N := 40) (a0 := (40, .inl (fun _ => 0))) (k1 := 2) (n1 := 280) (fun _ => rfl) (nI_pos (Nat.le_of_ble_eq_true rfl)) (nI_clamp (Nat.le_of_ble_eq_true rfl)) (Nat.le_of_ble_eq_true rfl) (Nat.le_of_ble_eq_true rfl) (Nat.le_of_ble_eq_true rfl) (Nat.le_refl _) (Nat.le_refl _) dX1_init_16 (fun q2 => ?_)
  refine j_putF C (Cn := RX1) (T := TX1) (ty := tyX1) (N := 7) (ws1 := [(h, .inr (3, [.ref q1, .ref q2, .null, .null, .null, .int (nI 0), .int (nI 0)])), (q2, .inl (cy 1, 40, .inl (fun _ => 0)))]) fin_X1_init_RX1 tyX1_ok nmX1 0 rfl rfl 1 (by decide) (by decide +kernel) rfl hnm rfl rfl rfl (Nat.le_of_ble_eq_true rfl) rfl dX1_init_18 ?_
  refine j_ws (ws1 := [(h, .inr (3, [.ref q1, .ref q2, .null, .null, .null, .int (nI 0), .int (nI 0)]))]) [0] rfl (by decide) ?_
  refine j_aload_n C rfl 0 rfl dX1_init_21 ?_
  refine j_bipush C (v := (nI 40)) (by decide +kernel) dX1_init_22 ?_
  refine j_newa C (at9 := .int) 1 (by decide +kernel) rfl rfl (N := 40) (a0 := (40, .inl (fun _ => 0))) (k1 := 3) (n1 := 320) (fun _ => rfl) (nI_pos (Nat.le_of_ble_eq_true rfl)) (nI_clamp (Nat.le_of_ble_eq_true rfl)) (Nat.le_of_ble_eq_true rfl) (Nat.le_of_ble_eq_true rfl) (Nat.le_of_ble_eq_true rfl) (Nat.le_refl _) (Nat.le_refl _) dX1_init_24 (fun q3 => ?_)
  refine j_putF C (Cn := RX1) (T := TX1) (ty := tyX1) (N := 7) (ws1 := [(h, .inr (3, [.ref q1, .ref q2, .ref q3, .null, .null, .int (nI 0), .int (nI 0)])), (q3, .inl (cy 1, 40, .inl (fun _ => 0)))]) fin_X1_init_RX1 tyX1_ok nmX1 0 rfl rfl 2 (by decide) (by decide +kernel) rfl hnm rfl rfl rfl (Nat.le_of_ble_eq_true rfl) rfl dX1_init_26 ?_
  refine j_ws (ws1 := [(h, .inr (3, [.ref q1, .ref q2, .ref q3, .null, .null, .int (nI 0), .int (nI 0)]))]) [0] rfl (by decide) ?_
  refine j_aload_n C rfl 0 rfl dX1_init_29 ?_
  refine j_bipush C (v := (nI 120)) (by decide +kernel) dX1_init_30 ?_
  refine j_newa C (at9 := .int) 1 (by decide +kernel) rfl rfl (N := 120) (a0 := (120, .inl (fun _ => 0))) (k1 := 4) (n1 := 440) (fun _ => rfl) (nI_pos (Nat.le_of_ble_eq_true rfl)) (nI_clamp (Nat.le_of_ble_eq_true rfl)) (Nat.le_of_ble_eq_true rfl) (Nat.le_of_ble_eq_true rfl) (Nat.le_of_ble_eq_true rfl) (Nat.le_refl _) (Nat.le_refl _) dX1_init_32 (fun q4 => ?_)
  refine j_putF C (Cn := RX1) (T := TX1) (ty := tyX1) (N := 7) (ws1 := [(h, .inr (3, [.ref q1, .ref q2, .ref q3, .ref q4, .null, .int (nI 0), .int (nI 0)])), (q4, .inl (cy 1, 120, .inl (fun _ => 0)))]) fin_X1_init_RX1 tyX1_ok nmX1 0 rfl rfl 3 (by decide) (by decide +kernel) rfl hnm rfl rfl rfl (Nat.le_of_ble_eq_true rfl) rfl dX1_init_34 ?_
  refine j_ws (ws1 := [(h, .inr (3, [.ref q1, .ref q2, .ref q3, .ref q4, .null, .int (nI 0), .int (nI 0)]))]) [0] rfl (by decide) ?_
  refine j_aload_n C rfl 0 rfl dX1_init_37 ?_
  refine j_new C (Cn := RX7) (T := TX7) (ty := tyX7) (N := 2) (ci := 9) (fs := [.null, .int (nI 0)]) (k1 := 5) (n1 := 442) fin_X1_init_RX7 tyX7_ok (by decide +kernel) (by decide +kernel) (by decide +kernel) rfl (fun j hj => by rcases (show j = 0 ∨ j = 1 by omega) with rfl | rfl <;> rfl) (Nat.le_of_ble_eq_true rfl) (Nat.le_of_ble_eq_true rfl) (Nat.le_refl _) (Nat.le_refl _) dX1_init_38 (fun q5 => ?_)
  refine j_dup C rfl dX1_init_41 ?_
  refine j_bipush C (v := (nI 40)) (by decide +kernel) dX1_init_42 ?_
  refine j_resv (k1 := 6) (n1 := 482) C (j_runI C (c_X7_init (R := 40) (Nat.le_of_ble_eq_true rfl) (Nat.le_of_ble_eq_true rfl)) gX1_init_X7_init rfl (by decide +kernel) (by decide +kernel) (by decide +kernel) rfl hdS_X7_init ⟨Nat.le_of_ble_eq_true rfl, Nat.le_of_ble_eq_true rfl⟩ ⟨Nat.le_of_ble_eq_true rfl, Nat.le_of_ble_eq_true rfl⟩ [1] rfl (by decide) rfl (Nat.le_of_ble_eq_true rfl) dX1_init_44) (wr := [(h, .inr (3, [.ref q1, .ref q2, .ref q3, .ref q4, .null, .int (nI 0), .int (nI 0)]))]) [0] rfl (by decide) (by decide) (Nat.le_refl _) (Nat.le_refl _) (fun q5l _ => ?_)
  refine j_putF C (Cn := RX1) (T := TX1) (ty := tyX1) (N := 7) (ws1 := [(h, .inr (3, [.ref q1, .ref q2, .ref q3, .ref q4, .ref q5, .int (nI 0), .int (nI 0)])), (q5, .inr (9, [.ref q5l, .int (nI 0)])), (q5l, .inl (cy 0, 40, .inl (fun _ => 0)))]) fin_X1_init_RX1 tyX1_ok nmX1 0 rfl rfl 4 (by decide) (by decide +kernel) rfl hnm rfl rfl rfl (Nat.le_of_ble_eq_true rfl) rfl dX1_init_47 ?_
  refine j_ws (ws1 := [(h, .inr (3, [.ref q1, .ref q2, .ref q3, .ref q4, .ref q5, .int (nI 0), .int (nI 0)]))]) [0] rfl (by decide) ?_
  refine j_ws (ws1 := []) [] rfl (by decide) ?_
  exact j_vret C (()) (trivial) [] rfl (by decide) (Nat.le_of_ble_eq_true rfl) (Nat.le_of_ble_eq_true rfl) dX1_init_50
set_option maxRecDepth 100000 in
theorem fin_X5_init_RX5 : ∀ w ∈ u_ws RX5 TX5 9, w ∈ wsX5_init := by decide +kernel
set_option maxHeartbeats 4000000 in
set_option maxRecDepth 100000 in
/-- Net() -/
theorem c_X5_init {l : Launch} {G : va_G} {cy : Nat → ClassId} {h : Nat} : Kv l yX5_init wsX5_init G cy [.ref h] [(h, .inr (7, [.null, .null, .null, .null, .null, .null, .null, .int (nI 0), .int (nI 0)]))] (fun (_ : Unit) => True) (fun _ => []) 1 7 33640 20 := by
  refine Kv_of (cc := cX5_init) (nL := 1) (by decide) rfl (Nat.le_of_ble_eq_true rfl) ?_
  intro p e s m args below meth c A C hnm
  refine j_lo (lo1 := [(0, .ref h)]) [0] rfl ?_
  refine j_aload_n C rfl 0 rfl dX5_init_0 ?_
  refine j_oinit C (by decide +kernel) (by decide +kernel) (by decide +kernel) (Nat.le_of_ble_eq_true rfl) (Nat.le_of_ble_eq_true rfl) dX5_init_1 ?_
  refine j_aload_n C rfl 0 rfl dX5_init_4 ?_
  refine j_sipush C (v := (nI 9600)) (by decide +kernel) dX5_init_5 ?_
  refine j_newa C (at9 := .int) 1 (by decide +kernel) rfl rfl (N := 9600) (a0 := (9600, .inl (fun _ => 0))) (k1 := 1) (n1 := 9600) (fun _ => rfl) (nI_pos (Nat.le_of_ble_eq_true rfl)) (nI_clamp (Nat.le_of_ble_eq_true rfl)) (Nat.le_of_ble_eq_true rfl) (Nat.le_of_ble_eq_true rfl) (Nat.le_of_ble_eq_true rfl) (Nat.le_refl _) (Nat.le_refl _) dX5_init_8 (fun q1 => ?_)
  refine j_putF C (Cn := RX5) (T := TX5) (ty := tyX5) (N := 9) (ws1 := [(h, .inr (7, [.ref q1, .null, .null, .null, .null, .null, .null, .int (nI 0), .int (nI 0)])), (q1, .inl (cy 1, 9600, .inl (fun _ => 0)))]) fin_X5_init_RX5 tyX5_ok nmX5 0 rfl rfl 0 (by decide) (by decide +kernel) rfl hnm rfl rfl rfl (Nat.le_of_ble_eq_true rfl) rfl dX5_init_10 ?_
  refine j_ws (ws1 := [(h, .inr (7, [.ref q1, .null, .null, .null, .null, .null, .null, .int (nI 0), .int (nI 0)]))]) [0] rfl (by decide) ?_
  refine j_aload_n C rfl 0 rfl dX5_init_13 ?_
  refine j_sipush C (v := (nI 1600)) (by decide +kernel) dX5_init_14 ?_
  refine j_newa C (at9 := .int) 1 (by decide +kernel) rfl rfl (N := 1600) (a0 := (1600, .inl (fun _ => 0))) (k1 := 2) (n1 := 11200) (fun _ => rfl) (nI_pos (Nat.le_of_ble_eq_true rfl)) (nI_clamp (Nat.le_of_ble_eq_true rfl)) (Nat.le_of_ble_eq_true rfl) (Nat.le_of_ble_eq_true rfl) (Nat.le_of_ble_eq_true rfl) (Nat.le_refl _) (Nat.le_refl _) dX5_init_17 (fun q2 => ?_)
  refine j_putF C (Cn := RX5) (T := TX5) (ty := tyX5) (N := 9) (ws1 := [(h, .inr (7, [.ref q1, .ref q2, .null, .null, .null, .null, .null, .int (nI 0), .int (nI 0)])), (q2, .inl (cy 1, 1600, .inl (fun _ => 0)))]) fin_X5_init_RX5 tyX5_ok nmX5 0 rfl rfl 1 (by decide) (by decide +kernel) rfl hnm rfl rfl rfl (Nat.le_of_ble_eq_true rfl) rfl dX5_init_19 ?_
  refine j_ws (ws1 := [(h, .inr (7, [.ref q1, .ref q2, .null, .null, .null, .null, .null, .int (nI 0), .int (nI 0)]))]) [0] rfl (by decide) ?_
  refine j_aload_n C rfl 0 rfl dX5_init_22 ?_
  refine j_sipush C (v := (nI 1600)) (by decide +kernel) dX5_init_23 ?_
  refine j_newa C (at9 := .int) 1 (by decide +kernel) rfl rfl (N := 1600) (a0 := (1600, .inl (fun _ => 0))) (k1 := 3) (n1 := 12800) (fun _ => rfl) (nI_pos (Nat.le_of_ble_eq_true rfl)) (nI_clamp (Nat.le_of_ble_eq_true rfl)) (Nat.le_of_ble_eq_true rfl) (Nat.le_of_ble_eq_true rfl) (Nat.le_of_ble_eq_true rfl) (Nat.le_refl _) (Nat.le_refl _) dX5_init_26 (fun q3 => ?_)
  refine j_putF C (Cn := RX5) (T := TX5) (ty := tyX5) (N := 9) (ws1 := [(h, .inr (7, [.ref q1, .ref q2, .ref q3, .null, .null, .null, .null, .int (nI 0), .int (nI 0)])), (q3, .inl (cy 1, 1600, .inl (fun _ => 0)))]) fin_X5_init_RX5 tyX5_ok nmX5 0 rfl rfl 2 (by decide) (by decide +kernel) rfl hnm rfl rfl rfl (Nat.le_of_ble_eq_true rfl) rfl dX5_init_28 ?_
  refine j_ws (ws1 := [(h, .inr (7, [.ref q1, .ref q2, .ref q3, .null, .null, .null, .null, .int (nI 0), .int (nI 0)]))]) [0] rfl (by decide) ?_
  refine j_aload_n C rfl 0 rfl dX5_init_31 ?_
  refine j_sipush C (v := (nI 1600)) (by decide +kernel) dX5_init_32 ?_
  refine j_newa C (at9 := .int) 1 (by decide +kernel) rfl rfl (N := 1600) (a0 := (1600, .inl (fun _ => 0))) (k1 := 4) (n1 := 14400) (fun _ => rfl) (nI_pos (Nat.le_of_ble_eq_true rfl)) (nI_clamp (Nat.le_of_ble_eq_true rfl)) (Nat.le_of_ble_eq_true rfl) (Nat.le_of_ble_eq_true rfl) (Nat.le_of_ble_eq_true rfl) (Nat.le_refl _) (Nat.le_refl _) dX5_init_35 (fun q4 => ?_)
  refine j_putF C (Cn := RX5) (T := TX5) (ty := tyX5) (N := 9) (ws1 := [(h, .inr (7, [.ref q1, .ref q2, .ref q3, .ref q4, .null, .null, .null, .int (nI 0), .int (nI 0)])), (q4, .inl (cy 1, 1600, .inl (fun _ => 0)))]) fin_X5_init_RX5 tyX5_ok nmX5 0 rfl rfl 3 (by decide) (by decide +kernel) rfl hnm rfl rfl rfl (Nat.le_of_ble_eq_true rfl) rfl dX5_init_37 ?_
  refine j_ws (ws1 := [(h, .inr (7, [.ref q1, .ref q2, .ref q3, .ref q4, .null, .null, .null, .int (nI 0), .int (nI 0)]))]) [0] rfl (by decide) ?_
  refine j_aload_n C rfl 0 rfl dX5_init_40 ?_
  refine j_bipush C (v := (nI 40)) (by decide +kernel) dX5_init_41 ?_
  refine j_newa C (at9 := .int) 1 (by decide +kernel) rfl rfl (N := 40) (a0 := (40, .inl (fun _ => 0))) (k1 := 5) (n1 := 14440) (fun _ => rfl) (nI_pos (Nat.le_of_ble_eq_true rfl)) (nI_clamp (Nat.le_of_ble_eq_true rfl)) (Nat.le_of_ble_eq_true rfl) (Nat.le_of_ble_eq_true rfl) (Nat.le_of_ble_eq_true rfl) (Nat.le_refl _) (Nat.le_refl _) dX5_init_43 (fun q5 => ?_)
  refine j_putF C (Cn := RX5) (T := TX5) (ty := tyX5) (N := 9) (ws1 := [(h, .inr (7, [.ref q1, .ref q2, .ref q3, .ref q4, .ref q5, .null, .null, .int (nI 0), .int (nI 0)])), (q5, .inl (cy 1, 40, .inl (fun _ => 0)))]) fin_X5_init_RX5 tyX5_ok nmX5 0 rfl rfl 4 (by decide) (by decide +kernel) rfl hnm rfl rfl rfl (Nat.le_of_ble_eq_true rfl) rfl dX5_init_45 ?_
  refine j_ws (ws1 := [(h, .inr (7, [.ref q1, .ref q2, .ref q3, .ref q4, .ref q5, .null, .null, .int (nI 0), .int (nI 0)]))]) [0] rfl (by decide) ?_
  refine j_aload_n C rfl 0 rfl dX5_init_48 ?_
  refine j_sipush C (v := (nI 9600)) (by decide +kernel) dX5_init_49 ?_
  refine j_newa C (at9 := .int) 1 (by decide +kernel) rfl rfl (N := 9600) (a0 := (9600, .inl (fun _ => 0))) (k1 := 6) (n1 := 24040) (fun _ => rfl) (nI_pos (Nat.le_of_ble_eq_true rfl)) (nI_clamp (Nat.le_of_ble_eq_true rfl)) (Nat.le_of_ble_eq_true rfl) (Nat.le_of_ble_eq_true rfl) (Nat.le_of_ble_eq_true rfl) (Nat.le_refl _) (Nat.le_refl _) dX5_init_52 (fun q6 => ?_)
  refine j_putF C (Cn := RX5) (T := TX5) (ty := tyX5) (N := 9) (ws1 := [(h, .inr (7, [.ref q1, .ref q2, .ref q3, .ref q4, .ref q5, .ref q6, .null, .int (nI 0), .int (nI 0)])), (q6, .inl (cy 1, 9600, .inl (fun _ => 0)))]) fin_X5_init_RX5 tyX5_ok nmX5 0 rfl rfl 5 (by decide) (by decide +kernel) rfl hnm rfl rfl rfl (Nat.le_of_ble_eq_true rfl) rfl dX5_init_54 ?_
  refine j_ws (ws1 := [(h, .inr (7, [.ref q1, .ref q2, .ref q3, .ref q4, .ref q5, .ref q6, .null, .int (nI 0), .int (nI 0)]))]) [0] rfl (by decide) ?_
  refine j_aload_n C rfl 0 rfl dX5_init_57 ?_
  refine j_sipush C (v := (nI 9600)) (by decide +kernel) dX5_init_58 ?_
  refine j_newa C (at9 := .int) 1 (by decide +kernel) rfl rfl (N := 9600) (a0 := (9600, .inl (fun _ => 0))) (k1 := 7) (n1 := 33640) (fun _ => rfl) (nI_pos (Nat.le_of_ble_eq_true rfl)) (nI_clamp (Nat.le_of_ble_eq_true rfl)) (Nat.le_of_ble_eq_true rfl) (Nat.le_of_ble_eq_true rfl) (Nat.le_of_ble_eq_true rfl) (Nat.le_refl _) (Nat.le_refl _) dX5_init_61 (fun q7 => ?_)
  refine j_putF C (Cn := RX5) (T := TX5) (ty := tyX5) (N := 9) (ws1 := [(h, .inr (7, [.ref q1, .ref q2, .ref q3, .ref q4, .ref q5, .ref q6, .ref q7, .int (nI 0), .int (nI 0)])), (q7, .inl (cy 1, 9600, .inl (fun _ => 0)))]) fin_X5_init_RX5 tyX5_ok nmX5 0 rfl rfl 6 (by decide) (by decide +kernel) rfl hnm rfl rfl rfl (Nat.le_of_ble_eq_true rfl) rfl dX5_init_63 ?_
  refine j_ws (ws1 := [(h, .inr (7, [.ref q1, .ref q2, .ref q3, .ref q4, .ref q5, .ref q6, .ref q7, .int (nI 0), .int (nI 0)]))]) [0] rfl (by decide) ?_
  refine j_ws (ws1 := []) [] rfl (by decide) ?_
  exact j_vret C (()) (trivial) [] rfl (by decide) (Nat.le_of_ble_eq_true rfl) (Nat.le_of_ble_eq_true rfl) dX5_init_66
set_option maxRecDepth 100000 in
theorem fin_X6_init_RX6 : ∀ w ∈ u_ws RX6 TX6 2, w ∈ wsX6_init := by decide +kernel
set_option maxHeartbeats 4000000 in
set_option maxRecDepth 100000 in
/-- Paths() -/
theorem c_X6_init {l : Launch} {G : va_G} {cy : Nat → ClassId} {h : Nat} : Kv l yX6_init wsX6_init G cy [.ref h] [(h, .inr (8, [.null, .null]))] (fun (_ : Unit) => True) (fun _ => []) 1 2 480 20 := by
  refine Kv_of (cc := cX6_init) (nL := 1) (by decide) rfl (Nat.le_of_ble_eq_true rfl) ?_
  intro p e s m args below meth c A C hnm
  refine j_lo (lo1 := [(0, .ref h)]) [0] rfl ?_
  refine j_aload_n C rfl 0 rfl dX6_init_0 ?_
  refine j_oinit C (by decide +kernel) (by decide +kernel) (by decide +kernel) (Nat.le_of_ble_eq_true rfl) (Nat.le_of_ble_eq_true rfl) dX6_init_1 ?_
  refine j_aload_n C rfl 0 rfl dX6_init_4 ?_
  refine j_sipush C (v := (nI 240)) (by decide +kernel) dX6_init_5 ?_
  refine j_newa C (at9 := .long) 3 (by decide +kernel) rfl rfl (N := 240) (a0 := (240, .inr (.inl (fun _ => 0)))) (k1 := 1) (n1 := 240) (fun _ => rfl) (nI_pos (Nat.le_of_ble_eq_true rfl)) (nI_clamp (Nat.le_of_ble_eq_true rfl)) (Nat.le_of_ble_eq_true rfl) (Nat.le_of_ble_eq_true rfl) (Nat.le_of_ble_eq_true rfl) (Nat.le_refl _) (Nat.le_refl _) dX6_init_8 (fun q1 => ?_)
  refine j_putf C (Cn := RX6) (T := TX6) (ty := tyX6) (N := 2) (ws1 := [(h, .inr (8, [.ref q1, .null])), (q1, .inl (cy 3, 240, .inr (.inl (fun _ => 0))))]) fin_X6_init_RX6 tyX6_ok nmX6 0 rfl rfl 0 (by decide) (by decide +kernel) rfl rfl rfl (Nat.le_of_ble_eq_true rfl) rfl dX6_init_10 ?_
  refine j_ws (ws1 := [(h, .inr (8, [.ref q1, .null]))]) [0] rfl (by decide) ?_
  refine j_aload_n C rfl 0 rfl dX6_init_13 ?_
  refine j_sipush C (v := (nI 240)) (by decide +kernel) dX6_init_14 ?_
  refine j_newa C (at9 := .long) 3 (by decide +kernel) rfl rfl (N := 240) (a0 := (240, .inr (.inl (fun _ => 0)))) (k1 := 2) (n1 := 480) (fun _ => rfl) (nI_pos (Nat.le_of_ble_eq_true rfl)) (nI_clamp (Nat.le_of_ble_eq_true rfl)) (Nat.le_of_ble_eq_true rfl) (Nat.le_of_ble_eq_true rfl) (Nat.le_of_ble_eq_true rfl) (Nat.le_refl _) (Nat.le_refl _) dX6_init_17 (fun q2 => ?_)
  refine j_putf C (Cn := RX6) (T := TX6) (ty := tyX6) (N := 2) (ws1 := [(h, .inr (8, [.ref q1, .ref q2])), (q2, .inl (cy 3, 240, .inr (.inl (fun _ => 0))))]) fin_X6_init_RX6 tyX6_ok nmX6 0 rfl rfl 1 (by decide) (by decide +kernel) rfl rfl rfl (Nat.le_of_ble_eq_true rfl) rfl dX6_init_19 ?_
  refine j_ws (ws1 := [(h, .inr (8, [.ref q1, .ref q2]))]) [0] rfl (by decide) ?_
  refine j_ws (ws1 := []) [] rfl (by decide) ?_
  exact j_vret C (()) (trivial) [] rfl (by decide) (Nat.le_of_ble_eq_true rfl) (Nat.le_of_ble_eq_true rfl) dX6_init_22
set_option maxRecDepth 100000 in
theorem fin_X8_init_RX7 : ∀ w ∈ u_ws RX7 TX7 2, w ∈ wsX8_init := by decide +kernel
set_option maxRecDepth 100000 in
theorem fin_X8_init_RX8 : ∀ w ∈ u_ws RX8 TX8 6, w ∈ wsX8_init := by decide +kernel
set_option maxHeartbeats 4000000 in
set_option maxRecDepth 100000 in
/-- Shortener() -/
theorem c_X8_init {l : Launch} {G : va_G} {cy : Nat → ClassId} {h : Nat} : Kv l yX8_init wsX8_init G cy [.ref h] [(h, .inr (10, [.null, .null, .null, .int (nI 0), .int (nI 0), .int (nI 0)]))] (fun (_ : Unit) => True) (fun _ => []) 2 5 280 41 := by
  refine Kv_of (cc := cX8_init) (nL := 1) (by decide) rfl (Nat.le_of_ble_eq_true rfl) ?_
  intro p e s m args below meth c A C hnm
  refine j_lo (lo1 := [(0, .ref h)]) [0] rfl ?_
  refine j_aload_n C rfl 0 rfl dX8_init_0 ?_
  refine j_oinit C (by decide +kernel) (by decide +kernel) (by decide +kernel) (Nat.le_of_ble_eq_true rfl) (Nat.le_of_ble_eq_true rfl) dX8_init_1 ?_
  refine j_aload_n C rfl 0 rfl dX8_init_4 ?_
  refine j_new C (Cn := RX7) (T := TX7) (ty := tyX7) (N := 2) (ci := 9) (fs := [.null, .int (nI 0)]) (k1 := 1) (n1 := 2) fin_X8_init_RX7 tyX7_ok (by decide +kernel) (by decide +kernel) (by decide +kernel) rfl (fun j hj => by rcases (show j = 0 ∨ j = 1 by omega) with rfl | rfl <;> rfl) (Nat.le_of_ble_eq_true rfl) (Nat.le_of_ble_eq_true rfl) (Nat.le_refl _) (Nat.le_refl _) dX8_init_5 (fun q1 => ?_)
  refine j_dup C rfl dX8_init_8 ?_
  refine j_sipush C (v := (nI 180)) (by decide +kernel) dX8_init_9 ?_
  refine j_resv (k1 := 2) (n1 := 182) C (j_runI C (c_X7_init (R := 180) (Nat.le_of_ble_eq_true rfl) (Nat.le_of_ble_eq_true rfl)) gX8_init_X7_init rfl (by decide +kernel) (by decide +kernel) (by decide +kernel) rfl hdS_X7_init ⟨Nat.le_of_ble_eq_true rfl, Nat.le_of_ble_eq_true rfl⟩ ⟨Nat.le_of_ble_eq_true rfl, Nat.le_of_ble_eq_true rfl⟩ [1] rfl (by decide) rfl (Nat.le_of_ble_eq_true rfl) dX8_init_12) (wr := [(h, .inr (10, [.null, .null, .null, .int (nI 0), .int (nI 0), .int (nI 0)]))]) [0] rfl (by decide) (by decide) (Nat.le_refl _) (Nat.le_refl _) (fun q1l _ => ?_)
  refine j_putF C (Cn := RX8) (T := TX8) (ty := tyX8) (N := 6) (ws1 := [(h, .inr (10, [.ref q1, .null, .null, .int (nI 0), .int (nI 0), .int (nI 0)])), (q1, .inr (9, [.ref q1l, .int (nI 0)])), (q1l, .inl (cy 0, 180, .inl (fun _ => 0)))]) fin_X8_init_RX8 tyX8_ok nmX8 0 rfl rfl 0 (by decide) (by decide +kernel) rfl hnm rfl rfl rfl (Nat.le_of_ble_eq_true rfl) rfl dX8_init_15 ?_
  refine j_ws (ws1 := [(h, .inr (10, [.ref q1, .null, .null, .int (nI 0), .int (nI 0), .int (nI 0)]))]) [0] rfl (by decide) ?_
  refine j_aload_n C rfl 0 rfl dX8_init_18 ?_
  refine j_new C (Cn := RX7) (T := TX7) (ty := tyX7) (N := 2) (ci := 9) (fs := [.null, .int (nI 0)]) (k1 := 3) (n1 := 184) fin_X8_init_RX7 tyX7_ok (by decide +kernel) (by decide +kernel) (by decide +kernel) rfl (fun j hj => by rcases (show j = 0 ∨ j = 1 by omega) with rfl | rfl <;> rfl) (Nat.le_of_ble_eq_true rfl) (Nat.le_of_ble_eq_true rfl) (Nat.le_refl _) (Nat.le_refl _) dX8_init_19 (fun q2 => ?_)
  refine j_dup C rfl dX8_init_22 ?_
  refine j_bipush C (v := (nI 60)) (by decide +kernel) dX8_init_23 ?_
  refine j_resv (k1 := 4) (n1 := 244) C (j_runI C (c_X7_init (R := 60) (Nat.le_of_ble_eq_true rfl) (Nat.le_of_ble_eq_true rfl)) gX8_init_X7_init rfl (by decide +kernel) (by decide +kernel) (by decide +kernel) rfl hdS_X7_init ⟨Nat.le_of_ble_eq_true rfl, Nat.le_of_ble_eq_true rfl⟩ ⟨Nat.le_of_ble_eq_true rfl, Nat.le_of_ble_eq_true rfl⟩ [1] rfl (by decide) rfl (Nat.le_of_ble_eq_true rfl) dX8_init_25) (wr := [(h, .inr (10, [.ref q1, .null, .null, .int (nI 0), .int (nI 0), .int (nI 0)]))]) [0] rfl (by decide) (by decide) (Nat.le_refl _) (Nat.le_refl _) (fun q2l _ => ?_)
  refine j_putF C (Cn := RX8) (T := TX8) (ty := tyX8) (N := 6) (ws1 := [(h, .inr (10, [.ref q1, .ref q2, .null, .int (nI 0), .int (nI 0), .int (nI 0)])), (q2, .inr (9, [.ref q2l, .int (nI 0)])), (q2l, .inl (cy 0, 60, .inl (fun _ => 0)))]) fin_X8_init_RX8 tyX8_ok nmX8 0 rfl rfl 1 (by decide) (by decide +kernel) rfl hnm rfl rfl rfl (Nat.le_of_ble_eq_true rfl) rfl dX8_init_28 ?_
  refine j_ws (ws1 := [(h, .inr (10, [.ref q1, .ref q2, .null, .int (nI 0), .int (nI 0), .int (nI 0)]))]) [0] rfl (by decide) ?_
  refine j_aload_n C rfl 0 rfl dX8_init_31 ?_
  refine j_bipush C (v := (nI 36)) (by decide +kernel) dX8_init_32 ?_
  refine j_newa C (at9 := .int) 1 (by decide +kernel) rfl rfl (N := 36) (a0 := (36, .inl (fun _ => 0))) (k1 := 5) (n1 := 280) (fun _ => rfl) (nI_pos (Nat.le_of_ble_eq_true rfl)) (nI_clamp (Nat.le_of_ble_eq_true rfl)) (Nat.le_of_ble_eq_true rfl) (Nat.le_of_ble_eq_true rfl) (Nat.le_of_ble_eq_true rfl) (Nat.le_refl _) (Nat.le_refl _) dX8_init_34 (fun q3 => ?_)
  refine j_putF C (Cn := RX8) (T := TX8) (ty := tyX8) (N := 6) (ws1 := [(h, .inr (10, [.ref q1, .ref q2, .ref q3, .int (nI 0), .int (nI 0), .int (nI 0)])), (q3, .inl (cy 1, 36, .inl (fun _ => 0)))]) fin_X8_init_RX8 tyX8_ok nmX8 0 rfl rfl 2 (by decide) (by decide +kernel) rfl hnm rfl rfl rfl (Nat.le_of_ble_eq_true rfl) rfl dX8_init_36 ?_
  refine j_ws (ws1 := [(h, .inr (10, [.ref q1, .ref q2, .ref q3, .int (nI 0), .int (nI 0), .int (nI 0)]))]) [0] rfl (by decide) ?_
  refine j_ws (ws1 := []) [] rfl (by decide) ?_
  exact j_vret C (()) (trivial) [] rfl (by decide) (Nat.le_of_ble_eq_true rfl) (Nat.le_of_ble_eq_true rfl) dX8_init_39
set_option maxRecDepth 100000 in
theorem fin_X0_init_RX0 : ∀ w ∈ u_ws RX0 TX0 4, w ∈ wsX0_init := by decide +kernel
set_option maxRecDepth 100000 in
theorem fin_X0_init_RX1 : ∀ w ∈ u_ws RX1 TX1 7, w ∈ wsX0_init := by decide +kernel
theorem hdS_X1_init : yX1_init.cls ≠ "java/lang/invoke/MethodHandle" ∧ yX1_init.cls ≠ "java/lang/invoke/VarHandle" ∧ (parseMethodDescriptor yX1_init.desc).map (fun d => d.parameters.length) = some 0 := by decide +kernel
set_option maxHeartbeats 4000000 in
set_option maxRecDepth 100000 in
/-- Fitter() -/
theorem c_X0_init {l : Launch} {G : va_G} {cy : Nat → ClassId} {h : Nat} : Kv l yX0_init wsX0_init G cy [.ref h] [(h, .inr (2, [.null, .null, .null, .null]))] (fun (_ : Unit) => True) (fun _ => []) 3 16 1058 61 := by
  refine Kv_of (cc := cX0_init) (nL := 1) (by decide) rfl (Nat.le_of_ble_eq_true rfl) ?_
  intro p e s m args below meth c A C hnm
  refine j_lo (lo1 := [(0, .ref h)]) [0] rfl ?_
  refine j_aload_n C rfl 0 rfl dX0_init_0 ?_
  refine j_oinit C (by decide +kernel) (by decide +kernel) (by decide +kernel) (Nat.le_of_ble_eq_true rfl) (Nat.le_of_ble_eq_true rfl) dX0_init_1 ?_
  refine j_aload_n C rfl 0 rfl dX0_init_4 ?_
  refine j_new C (Cn := RX1) (T := TX1) (ty := tyX1) (N := 7) (ci := 3) (fs := [.null, .null, .null, .null, .null, .int (nI 0), .int (nI 0)]) (k1 := 1) (n1 := 7) fin_X0_init_RX1 tyX1_ok (by decide +kernel) (by decide +kernel) (by decide +kernel) rfl (fun j hj => by rcases (show j = 0 ∨ j = 1 ∨ j = 2 ∨ j = 3 ∨ j = 4 ∨ j = 5 ∨ j = 6 by omega) with rfl | rfl | rfl | rfl | rfl | rfl | rfl <;> rfl) (Nat.le_of_ble_eq_true rfl) (Nat.le_of_ble_eq_true rfl) (Nat.le_refl _) (Nat.le_refl _) dX0_init_5 (fun q1 => ?_)
  refine j_dup C rfl dX0_init_8 ?_
  refine j_resv (k1 := 7) (n1 := 489) C (j_runN (host := "Foldrose") C (c_X1_init) gX0_init_X1_init_n11 rfl (by decide +kernel) (C.2.2.2.2.2.2.2.2.2.2.2.2.2 (RX0, 11, yX1_init) (by decide +kernel)) (by decide +kernel) rfl hdS_X1_init ⟨Nat.le_of_ble_eq_true rfl, Nat.le_of_ble_eq_true rfl⟩ ⟨Nat.le_of_ble_eq_true rfl, Nat.le_of_ble_eq_true rfl⟩ [1] rfl (by decide) rfl (Nat.le_of_ble_eq_true rfl) dX0_init_9) (wr := [(h, .inr (2, [.null, .null, .null, .null]))]) [0] rfl (by decide) (by decide) (Nat.le_refl _) (Nat.le_refl _) (fun u _ => ?_)
  refine j_putF C (Cn := RX0) (T := TX0) (ty := tyX0) (N := 4) (ws1 := [(h, .inr (2, [.ref q1, .null, .null, .null]))]) fin_X0_init_RX0 tyX0_ok nmX0 0 rfl rfl 0 (by decide) (by decide +kernel) rfl hnm rfl rfl rfl (Nat.le_of_ble_eq_true rfl) rfl dX0_init_12 ?_
  refine j_ws (ws1 := [(h, .inr (2, [.ref q1, .null, .null, .null]))]) [0] rfl (by decide) ?_
  refine j_aload_n C rfl 0 rfl dX0_init_15 ?_
  refine j_new C (Cn := RX1) (T := TX1) (ty := tyX1) (N := 7) (ci := 3) (fs := [.null, .null, .null, .null, .null, .int (nI 0), .int (nI 0)]) (k1 := 8) (n1 := 496) fin_X0_init_RX1 tyX1_ok (by decide +kernel) (by decide +kernel) (by decide +kernel) rfl (fun j hj => by rcases (show j = 0 ∨ j = 1 ∨ j = 2 ∨ j = 3 ∨ j = 4 ∨ j = 5 ∨ j = 6 by omega) with rfl | rfl | rfl | rfl | rfl | rfl | rfl <;> rfl) (Nat.le_of_ble_eq_true rfl) (Nat.le_of_ble_eq_true rfl) (Nat.le_refl _) (Nat.le_refl _) dX0_init_16 (fun q2 => ?_)
  refine j_dup C rfl dX0_init_19 ?_
  refine j_resv (k1 := 14) (n1 := 978) C (j_runN (host := "Foldrose") C (c_X1_init) gX0_init_X1_init_n11 rfl (by decide +kernel) (C.2.2.2.2.2.2.2.2.2.2.2.2.2 (RX0, 11, yX1_init) (by decide +kernel)) (by decide +kernel) rfl hdS_X1_init ⟨Nat.le_of_ble_eq_true rfl, Nat.le_of_ble_eq_true rfl⟩ ⟨Nat.le_of_ble_eq_true rfl, Nat.le_of_ble_eq_true rfl⟩ [1] rfl (by decide) rfl (Nat.le_of_ble_eq_true rfl) dX0_init_20) (wr := [(h, .inr (2, [.ref q1, .null, .null, .null]))]) [0] rfl (by decide) (by decide) (Nat.le_refl _) (Nat.le_refl _) (fun u _ => ?_)
  refine j_putF C (Cn := RX0) (T := TX0) (ty := tyX0) (N := 4) (ws1 := [(h, .inr (2, [.ref q1, .ref q2, .null, .null]))]) fin_X0_init_RX0 tyX0_ok nmX0 0 rfl rfl 1 (by decide) (by decide +kernel) rfl hnm rfl rfl rfl (Nat.le_of_ble_eq_true rfl) rfl dX0_init_23 ?_
  refine j_ws (ws1 := [(h, .inr (2, [.ref q1, .ref q2, .null, .null]))]) [0] rfl (by decide) ?_
  refine j_aload_n C rfl 0 rfl dX0_init_26 ?_
  refine j_bipush C (v := (nI 40)) (by decide +kernel) dX0_init_27 ?_
  refine j_newa C (at9 := .int) 1 (by decide +kernel) rfl rfl (N := 40) (a0 := (40, .inl (fun _ => 0))) (k1 := 15) (n1 := 1018) (fun _ => rfl) (nI_pos (Nat.le_of_ble_eq_true rfl)) (nI_clamp (Nat.le_of_ble_eq_true rfl)) (Nat.le_of_ble_eq_true rfl) (Nat.le_of_ble_eq_true rfl) (Nat.le_of_ble_eq_true rfl) (Nat.le_refl _) (Nat.le_refl _) dX0_init_29 (fun q3 => ?_)
  refine j_putF C (Cn := RX0) (T := TX0) (ty := tyX0) (N := 4) (ws1 := [(h, .inr (2, [.ref q1, .ref q2, .ref q3, .null])), (q3, .inl (cy 1, 40, .inl (fun _ => 0)))]) fin_X0_init_RX0 tyX0_ok nmX0 0 rfl rfl 2 (by decide) (by decide +kernel) rfl hnm rfl rfl rfl (Nat.le_of_ble_eq_true rfl) rfl dX0_init_31 ?_
  refine j_ws (ws1 := [(h, .inr (2, [.ref q1, .ref q2, .ref q3, .null]))]) [0] rfl (by decide) ?_
  refine j_aload_n C rfl 0 rfl dX0_init_34 ?_
  refine j_bipush C (v := (nI 40)) (by decide +kernel) dX0_init_35 ?_
  refine j_newa C (at9 := .int) 1 (by decide +kernel) rfl rfl (N := 40) (a0 := (40, .inl (fun _ => 0))) (k1 := 16) (n1 := 1058) (fun _ => rfl) (nI_pos (Nat.le_of_ble_eq_true rfl)) (nI_clamp (Nat.le_of_ble_eq_true rfl)) (Nat.le_of_ble_eq_true rfl) (Nat.le_of_ble_eq_true rfl) (Nat.le_of_ble_eq_true rfl) (Nat.le_refl _) (Nat.le_refl _) dX0_init_37 (fun q4 => ?_)
  refine j_putF C (Cn := RX0) (T := TX0) (ty := tyX0) (N := 4) (ws1 := [(h, .inr (2, [.ref q1, .ref q2, .ref q3, .ref q4])), (q4, .inl (cy 1, 40, .inl (fun _ => 0)))]) fin_X0_init_RX0 tyX0_ok nmX0 0 rfl rfl 3 (by decide) (by decide +kernel) rfl hnm rfl rfl rfl (Nat.le_of_ble_eq_true rfl) rfl dX0_init_39 ?_
  refine j_ws (ws1 := [(h, .inr (2, [.ref q1, .ref q2, .ref q3, .ref q4]))]) [0] rfl (by decide) ?_
  refine j_ws (ws1 := []) [] rfl (by decide) ?_
  exact j_vret C (()) (trivial) [] rfl (by decide) (Nat.le_of_ble_eq_true rfl) (Nat.le_of_ble_eq_true rfl) dX0_init_42
set_option maxRecDepth 100000 in
theorem fin_X2_init_RX1 : ∀ w ∈ u_ws RX1 TX1 7, w ∈ wsX2_init := by decide +kernel
set_option maxRecDepth 100000 in
theorem fin_X2_init_RX2 : ∀ w ∈ u_ws RX2 TX2 3, w ∈ wsX2_init := by decide +kernel
set_option maxRecDepth 100000 in
theorem fin_X2_init_RX7 : ∀ w ∈ u_ws RX7 TX7 2, w ∈ wsX2_init := by decide +kernel
set_option maxHeartbeats 4000000 in
set_option maxRecDepth 100000 in
/-- Group() -/
theorem c_X2_init {l : Launch} {G : va_G} {cy : Nat → ClassId} {h : Nat} : Kv l yX2_init wsX2_init G cy [.ref h] [(h, .inr (4, [.null, .null, .int (nI 0)]))] (fun (_ : List Value) => True) (fun vs => [(h, .inr (4, vs))]) 3 170 7131 61 := by
  refine Kv_of (cc := cX2_init) (nL := 2) (by decide) rfl (Nat.le_of_ble_eq_true rfl) ?_
  intro p e s m args below meth c A C hnm
  refine j_lo (lo1 := [(0, .ref h)]) [0] rfl ?_
  refine j_aload_n C rfl 0 rfl dX2_init_0 ?_
  refine j_oinit C (by decide +kernel) (by decide +kernel) (by decide +kernel) (Nat.le_of_ble_eq_true rfl) (Nat.le_of_ble_eq_true rfl) dX2_init_1 ?_
  refine j_aload_n C rfl 0 rfl dX2_init_4 ?_
  refine j_new C (Cn := RX1) (T := TX1) (ty := tyX1) (N := 7) (ci := 3) (fs := [.null, .null, .null, .null, .null, .int (nI 0), .int (nI 0)]) (k1 := 1) (n1 := 7) fin_X2_init_RX1 tyX1_ok (by decide +kernel) (by decide +kernel) (by decide +kernel) rfl (fun j hj => by rcases (show j = 0 ∨ j = 1 ∨ j = 2 ∨ j = 3 ∨ j = 4 ∨ j = 5 ∨ j = 6 by omega) with rfl | rfl | rfl | rfl | rfl | rfl | rfl <;> rfl) (Nat.le_of_ble_eq_true rfl) (Nat.le_of_ble_eq_true rfl) (Nat.le_refl _) (Nat.le_refl _) dX2_init_5 (fun q1 => ?_)
  refine j_dup C rfl dX2_init_8 ?_
  refine j_resv (k1 := 7) (n1 := 489) C (j_runN (host := "Foldrose") C (c_X1_init) gX2_init_X1_init_n11 rfl (by decide +kernel) (C.2.2.2.2.2.2.2.2.2.2.2.2.2 (RX2, 11, yX1_init) (by decide +kernel)) (by decide +kernel) rfl hdS_X1_init ⟨Nat.le_of_ble_eq_true rfl, Nat.le_of_ble_eq_true rfl⟩ ⟨Nat.le_of_ble_eq_true rfl, Nat.le_of_ble_eq_true rfl⟩ [1] rfl (by decide) rfl (Nat.le_of_ble_eq_true rfl) dX2_init_9) (wr := [(h, .inr (4, [.null, .null, .int (nI 0)]))]) [0] rfl (by decide) (by decide) (Nat.le_refl _) (Nat.le_refl _) (fun u _ => ?_)
  refine j_putf C (Cn := RX2) (T := TX2) (ty := tyX2) (N := 3) (ws1 := [(h, .inr (4, [.ref q1, .null, .int (nI 0)]))]) fin_X2_init_RX2 tyX2_ok nmX2 0 rfl rfl 0 (by decide) (by decide +kernel) rfl rfl rfl (Nat.le_of_ble_eq_true rfl) rfl dX2_init_12 ?_
  refine j_ws (ws1 := [(h, .inr (4, [.ref q1, .null, .int (nI 0)]))]) [0] rfl (by decide) ?_
  refine j_aload_n C rfl 0 rfl dX2_init_15 ?_
  refine j_bipush C (v := (nI 81)) (by decide +kernel) dX2_init_16 ?_
  refine j_anew C (Cn := RX7) 4 (by decide +kernel) C.2.2.2.2.2.2.2.2.2.2.1.1 rfl (N := 81) (k1 := 8) (n1 := 570) (nI_pos (Nat.le_of_ble_eq_true rfl)) (nI_clamp (Nat.le_of_ble_eq_true rfl)) (Nat.le_of_ble_eq_true rfl) (Nat.le_of_ble_eq_true rfl) (Nat.le_of_ble_eq_true rfl) (Nat.le_refl _) (Nat.le_refl _) dX2_init_18 (fun q2 => ?_)
  refine j_putF C (Cn := RX2) (T := TX2) (ty := tyX2) (N := 3) (ws1 := [(h, .inr (4, [.ref q1, .ref q2, .int (nI 0)])), (q2, .inl (cy 4, 81, .inr (.inr (.inr (.inr (fun _ => none))))))]) fin_X2_init_RX2 tyX2_ok nmX2 0 rfl rfl 1 (by decide) (by decide +kernel) rfl hnm rfl rfl rfl (Nat.le_of_ble_eq_true rfl) rfl dX2_init_21 ?_
  refine j_ws (ws1 := [(h, .inr (4, [.ref q1, .ref q2, .int (nI 0)])), (q2, .inl (cy 4, 81, .inr (.inr (.inr (.inr (fun _ => none))))))]) [0, 1] rfl (by decide) ?_
  refine j_iconst C (v := (nI 0)) (by decide +kernel) dX2_init_24 ?_
  refine j_istore_n C (lo1 := [(1, .int (nI 0)), (0, .ref h)]) rfl (by decide) rfl dX2_init_25 ?_
  refine j_lo (lo1 := [(1, .int (nI 0)), (0, .ref h)]) [0, 1] rfl ?_
  have lp : ∀ (d9 : Nat) (i : Nat) (g1 : Nat → Option Nat), 81 - i < d9 → (i ≤ 81) → J p l e (fz_rm 3 170 7131 61) s m args below meth c (MQ below (va_Qv (fun (_ : List Value) => True) (fz_B G (fun vs => [(h, .inr (4, vs))]) A) A) args s 170 7131 A) G A 2 [(h, .inr (4, [.ref q1, .ref q2, .int (nI 0)])), (q2, .inl (cy 4, 81, .inr (.inr (.inr (.inr g1)))))] (8 + 2 * i) (570 + 81 * i) 26 [(1, .int (nI i)), (0, .ref h)] [] := by
    intro d9
    induction d9 with
    | zero => intro i g1 hd9; exact absurd hd9 (Nat.not_lt_zero _)
    | succ d9 ih =>
      intro i g1 hd9 hi
      refine j_iload_n C rfl 0 rfl dX2_init_26 ?_
      refine j_bipush C (v := (nI 81)) (by decide +kernel) dX2_init_27 ?_
      refine j_icmp_ge C (P := 81 ≤ i) (nI_leI (by omega) (by omega)) (tgt := 53) (by decide) dX2_init_29 (fun ht => ?_) (fun hq => ?_)
      · have hi9 : i = 81 := by omega
        subst hi9
        exact j_vret C [.ref q1, .ref q2, .int (nI 0)] trivial [0] rfl (by decide) (Nat.le_of_ble_eq_true rfl) (Nat.le_of_ble_eq_true rfl) dX2_init_53
      · refine j_aload_n C rfl 1 rfl dX2_init_32 ?_
        refine j_getf C (Cn := RX2) (T := TX2) (N := 3) fin_X2_init_RX2 0 rfl rfl 1 (by decide) (by decide +kernel) rfl dX2_init_33 ?_
        refine j_iload_n C rfl 0 rfl dX2_init_36 ?_
        refine j_new C (Cn := RX7) (T := TX7) (ty := tyX7) (N := 2) (ci := 9) (fs := [.null, .int (nI 0)]) (k1 := 8 + 2 * i + 1) (n1 := 570 + 81 * i + 2) fin_X2_init_RX7 tyX7_ok (by decide +kernel) (by decide +kernel) (by decide +kernel) rfl (fun j hj => by rcases (show j = 0 ∨ j = 1 by omega) with rfl | rfl <;> rfl) ((show 8 + 2 * i + 1 ≤ 170 by omega)) ((show 570 + 81 * i + 2 ≤ 7131 by omega)) (Nat.le_refl _) (Nat.le_refl _) dX2_init_37 (fun r1 => ?_)
        refine j_dup C rfl dX2_init_40 ?_
        refine j_bipush C (v := (nI 79)) (by decide +kernel) dX2_init_41 ?_
        refine j_resv (k1 := 8 + 2 * i + 1 + 1) (n1 := 570 + 81 * i + 2 + 79) C (j_runI C (c_X7_init (R := 79) (Nat.le_of_ble_eq_true rfl) (Nat.le_of_ble_eq_true rfl)) gX2_init_X7_init rfl (by decide +kernel) (by decide +kernel) (by decide +kernel) rfl hdS_X7_init ⟨Nat.le_of_ble_eq_true rfl, Nat.le_of_ble_eq_true rfl⟩ ⟨(show 8 + 2 * i + 1 + 1 ≤ 170 by omega), (show 570 + 81 * i + 2 + 79 ≤ 7131 by omega)⟩ [2] rfl (by decide) rfl (Nat.le_of_ble_eq_true rfl) dX2_init_43) (wr := [(h, .inr (4, [.ref q1, .ref q2, .int (nI 0)])), (q2, .inl (cy 4, 81, .inr (.inr (.inr (.inr g1)))))]) [0, 1] rfl (by decide) (by decide) (Nat.le_refl _) (Nat.le_refl _) (fun r1l _ => ?_)
        refine j_aast C 1 4 2 9 rfl rfl rfl rfl (j := i) (by omega) (by omega) (ws1 := [(h, .inr (4, [.ref q1, .ref q2, .int (nI 0)])), (q2, .inl (cy 4, 81, .inr (.inr (.inr (.inr (va_up g1 i (some r1))))))), (r1, .inr (9, [.ref r1l, .int (nI 0)])), (r1l, .inl (cy 0, 79, .inl (fun _ => 0)))]) rfl dX2_init_46 ?_
        refine j_ws (ws1 := [(h, .inr (4, [.ref q1, .ref q2, .int (nI 0)])), (q2, .inl (cy 4, 81, .inr (.inr (.inr (.inr (va_up g1 i (some r1)))))))]) [0, 1] rfl (by decide) ?_
        refine j_iinc C (v := (nI (i + 1))) (lo1 := [(1, .int (nI (i + 1))), (0, .ref h)]) 0 rfl (fx_inc i 1) (by decide) rfl dX2_init_47 ?_
        refine j_goto C (tgt := 26) (by decide) dX2_init_50 ?_
        refine j_lo (lo1 := [(1, .int (nI (i + 1))), (0, .ref h)]) [0, 1] rfl ?_
        refine j_widen (k1 := 8 + 2 * (i + 1)) (n1 := 570 + 81 * (i + 1)) (by omega) (by omega) ?_
        exact ih (i + 1) _ (by omega) (by omega)
  exact lp 82 0 _ (by omega) (by omega)
set_option maxRecDepth 100000 in
theorem fin_X3_init_RX3 : ∀ w ∈ u_ws RX3 TX3 4, w ∈ wsX3_init := by decide +kernel
set_option maxRecDepth 100000 in
theorem fin_X3_init_RX7 : ∀ w ∈ u_ws RX7 TX7 2, w ∈ wsX3_init := by decide +kernel
set_option maxHeartbeats 4000000 in
set_option maxRecDepth 100000 in
/-- Images() -/
theorem c_X3_init {l : Launch} {G : va_G} {cy : Nat → ClassId} {h : Nat} : Kv l yX3_init wsX3_init G cy [.ref h] [(h, .inr (5, [.null, .null, .null, .null]))] (fun (_ : List Value) => True) (fun vs => [(h, .inr (5, vs))]) 2 10 201 41 := by
  refine Kv_of (cc := cX3_init) (nL := 2) (by decide) rfl (Nat.le_of_ble_eq_true rfl) ?_
  intro p e s m args below meth c A C hnm
  refine j_lo (lo1 := [(0, .ref h)]) [0] rfl ?_
  refine j_aload_n C rfl 0 rfl dX3_init_0 ?_
  refine j_oinit C (by decide +kernel) (by decide +kernel) (by decide +kernel) (Nat.le_of_ble_eq_true rfl) (Nat.le_of_ble_eq_true rfl) dX3_init_1 ?_
  refine j_aload_n C rfl 0 rfl dX3_init_4 ?_
  refine j_iconst C (v := (nI 3)) (by decide +kernel) dX3_init_5 ?_
  refine j_anew C (Cn := RX7) 4 (by decide +kernel) C.2.2.2.2.2.2.2.2.2.2.1.1 rfl (N := 3) (k1 := 1) (n1 := 3) (nI_pos (Nat.le_of_ble_eq_true rfl)) (nI_clamp (Nat.le_of_ble_eq_true rfl)) (Nat.le_of_ble_eq_true rfl) (Nat.le_of_ble_eq_true rfl) (Nat.le_of_ble_eq_true rfl) (Nat.le_refl _) (Nat.le_refl _) dX3_init_6 (fun q1 => ?_)
  refine j_putF C (Cn := RX3) (T := TX3) (ty := tyX3) (N := 4) (ws1 := [(h, .inr (5, [.ref q1, .null, .null, .null])), (q1, .inl (cy 4, 3, .inr (.inr (.inr (.inr (fun _ => none))))))]) fin_X3_init_RX3 tyX3_ok nmX3 0 rfl rfl 0 (by decide) (by decide +kernel) rfl hnm rfl rfl rfl (Nat.le_of_ble_eq_true rfl) rfl dX3_init_9 ?_
  refine j_ws (ws1 := [(h, .inr (5, [.ref q1, .null, .null, .null])), (q1, .inl (cy 4, 3, .inr (.inr (.inr (.inr (fun _ => none))))))]) [0, 1] rfl (by decide) ?_
  refine j_aload_n C rfl 0 rfl dX3_init_12 ?_
  refine j_bipush C (v := (nI 6)) (by decide +kernel) dX3_init_13 ?_
  refine j_newa C (at9 := .int) 1 (by decide +kernel) rfl rfl (N := 6) (a0 := (6, .inl (fun _ => 0))) (k1 := 2) (n1 := 9) (fun _ => rfl) (nI_pos (Nat.le_of_ble_eq_true rfl)) (nI_clamp (Nat.le_of_ble_eq_true rfl)) (Nat.le_of_ble_eq_true rfl) (Nat.le_of_ble_eq_true rfl) (Nat.le_of_ble_eq_true rfl) (Nat.le_refl _) (Nat.le_refl _) dX3_init_15 (fun q2 => ?_)
  refine j_putF C (Cn := RX3) (T := TX3) (ty := tyX3) (N := 4) (ws1 := [(h, .inr (5, [.ref q1, .ref q2, .null, .null])), (q1, .inl (cy 4, 3, .inr (.inr (.inr (.inr (fun _ => none)))))), (q2, .inl (cy 1, 6, .inl (fun _ => 0)))]) fin_X3_init_RX3 tyX3_ok nmX3 0 rfl rfl 1 (by decide) (by decide +kernel) rfl hnm rfl rfl rfl (Nat.le_of_ble_eq_true rfl) rfl dX3_init_17 ?_
  refine j_ws (ws1 := [(h, .inr (5, [.ref q1, .ref q2, .null, .null])), (q1, .inl (cy 4, 3, .inr (.inr (.inr (.inr (fun _ => none))))))]) [0, 1] rfl (by decide) ?_
  refine j_aload_n C rfl 0 rfl dX3_init_20 ?_
  refine j_iconst C (v := (nI 3)) (by decide +kernel) dX3_init_21 ?_
  refine j_newa C (at9 := .long) 3 (by decide +kernel) rfl rfl (N := 3) (a0 := (3, .inr (.inl (fun _ => 0)))) (k1 := 3) (n1 := 12) (fun _ => rfl) (nI_pos (Nat.le_of_ble_eq_true rfl)) (nI_clamp (Nat.le_of_ble_eq_true rfl)) (Nat.le_of_ble_eq_true rfl) (Nat.le_of_ble_eq_true rfl) (Nat.le_of_ble_eq_true rfl) (Nat.le_refl _) (Nat.le_refl _) dX3_init_22 (fun q3 => ?_)
  refine j_putf C (Cn := RX3) (T := TX3) (ty := tyX3) (N := 4) (ws1 := [(h, .inr (5, [.ref q1, .ref q2, .ref q3, .null])), (q1, .inl (cy 4, 3, .inr (.inr (.inr (.inr (fun _ => none)))))), (q3, .inl (cy 3, 3, .inr (.inl (fun _ => 0))))]) fin_X3_init_RX3 tyX3_ok nmX3 0 rfl rfl 2 (by decide) (by decide +kernel) rfl rfl rfl (Nat.le_of_ble_eq_true rfl) rfl dX3_init_24 ?_
  refine j_ws (ws1 := [(h, .inr (5, [.ref q1, .ref q2, .ref q3, .null])), (q1, .inl (cy 4, 3, .inr (.inr (.inr (.inr (fun _ => none))))))]) [0, 1] rfl (by decide) ?_
  refine j_aload_n C rfl 0 rfl dX3_init_27 ?_
  refine j_iconst C (v := (nI 3)) (by decide +kernel) dX3_init_28 ?_
  refine j_newa C (at9 := .long) 3 (by decide +kernel) rfl rfl (N := 3) (a0 := (3, .inr (.inl (fun _ => 0)))) (k1 := 4) (n1 := 15) (fun _ => rfl) (nI_pos (Nat.le_of_ble_eq_true rfl)) (nI_clamp (Nat.le_of_ble_eq_true rfl)) (Nat.le_of_ble_eq_true rfl) (Nat.le_of_ble_eq_true rfl) (Nat.le_of_ble_eq_true rfl) (Nat.le_refl _) (Nat.le_refl _) dX3_init_29 (fun q4 => ?_)
  refine j_putf C (Cn := RX3) (T := TX3) (ty := tyX3) (N := 4) (ws1 := [(h, .inr (5, [.ref q1, .ref q2, .ref q3, .ref q4])), (q1, .inl (cy 4, 3, .inr (.inr (.inr (.inr (fun _ => none)))))), (q4, .inl (cy 3, 3, .inr (.inl (fun _ => 0))))]) fin_X3_init_RX3 tyX3_ok nmX3 0 rfl rfl 3 (by decide) (by decide +kernel) rfl rfl rfl (Nat.le_of_ble_eq_true rfl) rfl dX3_init_31 ?_
  refine j_ws (ws1 := [(h, .inr (5, [.ref q1, .ref q2, .ref q3, .ref q4])), (q1, .inl (cy 4, 3, .inr (.inr (.inr (.inr (fun _ => none))))))]) [0, 1] rfl (by decide) ?_
  refine j_iconst C (v := (nI 0)) (by decide +kernel) dX3_init_34 ?_
  refine j_istore_n C (lo1 := [(1, .int (nI 0)), (0, .ref h)]) rfl (by decide) rfl dX3_init_35 ?_
  refine j_lo (lo1 := [(1, .int (nI 0)), (0, .ref h)]) [0, 1] rfl ?_
  have lp : ∀ (d9 : Nat) (i : Nat) (g1 : Nat → Option Nat), 3 - i < d9 → (i ≤ 3) → J p l e (fz_rm 2 10 201 41) s m args below meth c (MQ below (va_Qv (fun (_ : List Value) => True) (fz_B G (fun vs => [(h, .inr (5, vs))]) A) A) args s 10 201 A) G A 2 [(h, .inr (5, [.ref q1, .ref q2, .ref q3, .ref q4])), (q1, .inl (cy 4, 3, .inr (.inr (.inr (.inr g1)))))] (4 + 2 * i) (15 + 62 * i) 36 [(1, .int (nI i)), (0, .ref h)] [] := by
    intro d9
    induction d9 with
    | zero => intro i g1 hd9; exact absurd hd9 (Nat.not_lt_zero _)
    | succ d9 ih =>
      intro i g1 hd9 hi
      refine j_iload_n C rfl 0 rfl dX3_init_36 ?_
      refine j_iconst C (v := (nI 3)) (by decide +kernel) dX3_init_37 ?_
      refine j_icmp_ge C (P := 3 ≤ i) (nI_leI (by omega) (by omega)) (tgt := 62) (by decide) dX3_init_38 (fun ht => ?_) (fun hq => ?_)
      · have hi9 : i = 3 := by omega
        subst hi9
        exact j_vret C [.ref q1, .ref q2, .ref q3, .ref q4] trivial [0] rfl (by decide) (Nat.le_of_ble_eq_true rfl) (Nat.le_of_ble_eq_true rfl) dX3_init_62
      · refine j_aload_n C rfl 1 rfl dX3_init_41 ?_
        refine j_getf C (Cn := RX3) (T := TX3) (N := 4) fin_X3_init_RX3 0 rfl rfl 0 (by decide) (by decide +kernel) rfl dX3_init_42 ?_
        refine j_iload_n C rfl 0 rfl dX3_init_45 ?_
        refine j_new C (Cn := RX7) (T := TX7) (ty := tyX7) (N := 2) (ci := 9) (fs := [.null, .int (nI 0)]) (k1 := 4 + 2 * i + 1) (n1 := 15 + 62 * i + 2) fin_X3_init_RX7 tyX7_ok (by decide +kernel) (by decide +kernel) (by decide +kernel) rfl (fun j hj => by rcases (show j = 0 ∨ j = 1 by omega) with rfl | rfl <;> rfl) ((show 4 + 2 * i + 1 ≤ 10 by omega)) ((show 15 + 62 * i + 2 ≤ 201 by omega)) (Nat.le_refl _) (Nat.le_refl _) dX3_init_46 (fun r1 => ?_)
        refine j_dup C rfl dX3_init_49 ?_
        refine j_bipush C (v := (nI 60)) (by decide +kernel) dX3_init_50 ?_
        refine j_resv (k1 := 4 + 2 * i + 1 + 1) (n1 := 15 + 62 * i + 2 + 60) C (j_runI C (c_X7_init (R := 60) (Nat.le_of_ble_eq_true rfl) (Nat.le_of_ble_eq_true rfl)) gX3_init_X7_init rfl (by decide +kernel) (by decide +kernel) (by decide +kernel) rfl hdS_X7_init ⟨Nat.le_of_ble_eq_true rfl, Nat.le_of_ble_eq_true rfl⟩ ⟨(show 4 + 2 * i + 1 + 1 ≤ 10 by omega), (show 15 + 62 * i + 2 + 60 ≤ 201 by omega)⟩ [2] rfl (by decide) rfl (Nat.le_of_ble_eq_true rfl) dX3_init_52) (wr := [(h, .inr (5, [.ref q1, .ref q2, .ref q3, .ref q4])), (q1, .inl (cy 4, 3, .inr (.inr (.inr (.inr g1)))))]) [0, 1] rfl (by decide) (by decide) (Nat.le_refl _) (Nat.le_refl _) (fun r1l _ => ?_)
        refine j_aast C 1 4 2 9 rfl rfl rfl rfl (j := i) (by omega) (by omega) (ws1 := [(h, .inr (5, [.ref q1, .ref q2, .ref q3, .ref q4])), (q1, .inl (cy 4, 3, .inr (.inr (.inr (.inr (va_up g1 i (some r1))))))), (r1, .inr (9, [.ref r1l, .int (nI 0)])), (r1l, .inl (cy 0, 60, .inl (fun _ => 0)))]) rfl dX3_init_55 ?_
        refine j_ws (ws1 := [(h, .inr (5, [.ref q1, .ref q2, .ref q3, .ref q4])), (q1, .inl (cy 4, 3, .inr (.inr (.inr (.inr (va_up g1 i (some r1)))))))]) [0, 1] rfl (by decide) ?_
        refine j_iinc C (v := (nI (i + 1))) (lo1 := [(1, .int (nI (i + 1))), (0, .ref h)]) 0 rfl (fx_inc i 1) (by decide) rfl dX3_init_56 ?_
        refine j_goto C (tgt := 36) (by decide) dX3_init_59 ?_
        refine j_lo (lo1 := [(1, .int (nI (i + 1))), (0, .ref h)]) [0, 1] rfl ?_
        refine j_widen (k1 := 4 + 2 * (i + 1)) (n1 := 15 + 62 * (i + 1)) (by omega) (by omega) ?_
        exact ih (i + 1) _ (by omega) (by omega)
  exact lp 4 0 _ (by omega) (by omega)
set_option maxRecDepth 100000 in
theorem fin_X4_init_RX4 : ∀ w ∈ u_ws RX4 TX4 5, w ∈ wsX4_init := by decide +kernel
set_option maxRecDepth 100000 in
theorem fin_X4_init_RX7 : ∀ w ∈ u_ws RX7 TX7 2, w ∈ wsX4_init := by decide +kernel
set_option maxHeartbeats 4000000 in
set_option maxRecDepth 100000 in
/-- Inverter() -/
theorem c_X4_init {l : Launch} {G : va_G} {cy : Nat → ClassId} {h : Nat} : Kv l yX4_init wsX4_init G cy [.ref h] [(h, .inr (6, [.null, .null, .null, .null, .null]))] (fun (_ : Unit) => True) (fun _ => []) 2 18 18322 41 := by
  refine Kv_of (cc := cX4_init) (nL := 2) (by decide) rfl (Nat.le_of_ble_eq_true rfl) ?_
  intro p e s m args below meth c A C hnm
  refine j_lo (lo1 := [(0, .ref h)]) [0] rfl ?_
  refine j_aload_n C rfl 0 rfl dX4_init_0 ?_
  refine j_oinit C (by decide +kernel) (by decide +kernel) (by decide +kernel) (Nat.le_of_ble_eq_true rfl) (Nat.le_of_ble_eq_true rfl) dX4_init_1 ?_
  refine j_aload_n C rfl 0 rfl dX4_init_4 ?_
  refine j_iconst C (v := (nI 3)) (by decide +kernel) dX4_init_5 ?_
  refine j_anew C (Cn := RX7) 4 (by decide +kernel) C.2.2.2.2.2.2.2.2.2.2.1.1 rfl (N := 3) (k1 := 1) (n1 := 3) (nI_pos (Nat.le_of_ble_eq_true rfl)) (nI_clamp (Nat.le_of_ble_eq_true rfl)) (Nat.le_of_ble_eq_true rfl) (Nat.le_of_ble_eq_true rfl) (Nat.le_of_ble_eq_true rfl) (Nat.le_refl _) (Nat.le_refl _) dX4_init_6 (fun q1 => ?_)
  refine j_putF C (Cn := RX4) (T := TX4) (ty := tyX4) (N := 5) (ws1 := [(h, .inr (6, [.ref q1, .null, .null, .null, .null])), (q1, .inl (cy 4, 3, .inr (.inr (.inr (.inr (fun _ => none))))))]) fin_X4_init_RX4 tyX4_ok nmX4 0 rfl rfl 0 (by decide) (by decide +kernel) rfl hnm rfl rfl rfl (Nat.le_of_ble_eq_true rfl) rfl dX4_init_9 ?_
  refine j_ws (ws1 := [(h, .inr (6, [.ref q1, .null, .null, .null, .null])), (q1, .inl (cy 4, 3, .inr (.inr (.inr (.inr (fun _ => none))))))]) [0, 1] rfl (by decide) ?_
  refine j_aload_n C rfl 0 rfl dX4_init_12 ?_
  refine j_iconst C (v := (nI 3)) (by decide +kernel) dX4_init_13 ?_
  refine j_anew C (Cn := RX7) 4 (by decide +kernel) C.2.2.2.2.2.2.2.2.2.2.1.1 rfl (N := 3) (k1 := 2) (n1 := 6) (nI_pos (Nat.le_of_ble_eq_true rfl)) (nI_clamp (Nat.le_of_ble_eq_true rfl)) (Nat.le_of_ble_eq_true rfl) (Nat.le_of_ble_eq_true rfl) (Nat.le_of_ble_eq_true rfl) (Nat.le_refl _) (Nat.le_refl _) dX4_init_14 (fun q2 => ?_)
  refine j_putF C (Cn := RX4) (T := TX4) (ty := tyX4) (N := 5) (ws1 := [(h, .inr (6, [.ref q1, .ref q2, .null, .null, .null])), (q1, .inl (cy 4, 3, .inr (.inr (.inr (.inr (fun _ => none)))))), (q2, .inl (cy 4, 3, .inr (.inr (.inr (.inr (fun _ => none))))))]) fin_X4_init_RX4 tyX4_ok nmX4 0 rfl rfl 1 (by decide) (by decide +kernel) rfl hnm rfl rfl rfl (Nat.le_of_ble_eq_true rfl) rfl dX4_init_17 ?_
  refine j_ws (ws1 := [(h, .inr (6, [.ref q1, .ref q2, .null, .null, .null])), (q1, .inl (cy 4, 3, .inr (.inr (.inr (.inr (fun _ => none)))))), (q2, .inl (cy 4, 3, .inr (.inr (.inr (.inr (fun _ => none))))))]) [0, 1, 2] rfl (by decide) ?_
  refine j_aload_n C rfl 0 rfl dX4_init_20 ?_
  refine j_new C (Cn := RX7) (T := TX7) (ty := tyX7) (N := 2) (ci := 9) (fs := [.null, .int (nI 0)]) (k1 := 3) (n1 := 8) fin_X4_init_RX7 tyX7_ok (by decide +kernel) (by decide +kernel) (by decide +kernel) rfl (fun j hj => by rcases (show j = 0 ∨ j = 1 by omega) with rfl | rfl <;> rfl) (Nat.le_of_ble_eq_true rfl) (Nat.le_of_ble_eq_true rfl) (Nat.le_refl _) (Nat.le_refl _) dX4_init_21 (fun q3 => ?_)
  refine j_dup C rfl dX4_init_24 ?_
  refine j_bipush C (v := (nI 120)) (by decide +kernel) dX4_init_25 ?_
  refine j_resv (k1 := 4) (n1 := 128) C (j_runI C (c_X7_init (R := 120) (Nat.le_of_ble_eq_true rfl) (Nat.le_of_ble_eq_true rfl)) gX4_init_X7_init rfl (by decide +kernel) (by decide +kernel) (by decide +kernel) rfl hdS_X7_init ⟨Nat.le_of_ble_eq_true rfl, Nat.le_of_ble_eq_true rfl⟩ ⟨Nat.le_of_ble_eq_true rfl, Nat.le_of_ble_eq_true rfl⟩ [3] rfl (by decide) rfl (Nat.le_of_ble_eq_true rfl) dX4_init_27) (wr := [(h, .inr (6, [.ref q1, .ref q2, .null, .null, .null])), (q1, .inl (cy 4, 3, .inr (.inr (.inr (.inr (fun _ => none)))))), (q2, .inl (cy 4, 3, .inr (.inr (.inr (.inr (fun _ => none))))))]) [0, 1, 2] rfl (by decide) (by decide) (Nat.le_refl _) (Nat.le_refl _) (fun q3l _ => ?_)
  refine j_putF C (Cn := RX4) (T := TX4) (ty := tyX4) (N := 5) (ws1 := [(h, .inr (6, [.ref q1, .ref q2, .ref q3, .null, .null])), (q1, .inl (cy 4, 3, .inr (.inr (.inr (.inr (fun _ => none)))))), (q2, .inl (cy 4, 3, .inr (.inr (.inr (.inr (fun _ => none)))))), (q3, .inr (9, [.ref q3l, .int (nI 0)])), (q3l, .inl (cy 0, 120, .inl (fun _ => 0)))]) fin_X4_init_RX4 tyX4_ok nmX4 0 rfl rfl 2 (by decide) (by decide +kernel) rfl hnm rfl rfl rfl (Nat.le_of_ble_eq_true rfl) rfl dX4_init_30 ?_
  refine j_ws (ws1 := [(h, .inr (6, [.ref q1, .ref q2, .ref q3, .null, .null])), (q1, .inl (cy 4, 3, .inr (.inr (.inr (.inr (fun _ => none)))))), (q2, .inl (cy 4, 3, .inr (.inr (.inr (.inr (fun _ => none))))))]) [0, 1, 2] rfl (by decide) ?_
  refine j_aload_n C rfl 0 rfl dX4_init_33 ?_
  refine j_new C (Cn := RX7) (T := TX7) (ty := tyX7) (N := 2) (ci := 9) (fs := [.null, .int (nI 0)]) (k1 := 5) (n1 := 130) fin_X4_init_RX7 tyX7_ok (by decide +kernel) (by decide +kernel) (by decide +kernel) rfl (fun j hj => by rcases (show j = 0 ∨ j = 1 by omega) with rfl | rfl <;> rfl) (Nat.le_of_ble_eq_true rfl) (Nat.le_of_ble_eq_true rfl) (Nat.le_refl _) (Nat.le_refl _) dX4_init_34 (fun q4 => ?_)
  refine j_dup C rfl dX4_init_37 ?_
  refine j_sipush C (v := (nI 7200)) (by decide +kernel) dX4_init_38 ?_
  refine j_resv (k1 := 6) (n1 := 7330) C (j_runI C (c_X7_init (R := 7200) (Nat.le_of_ble_eq_true rfl) (Nat.le_of_ble_eq_true rfl)) gX4_init_X7_init rfl (by decide +kernel) (by decide +kernel) (by decide +kernel) rfl hdS_X7_init ⟨Nat.le_of_ble_eq_true rfl, Nat.le_of_ble_eq_true rfl⟩ ⟨Nat.le_of_ble_eq_true rfl, Nat.le_of_ble_eq_true rfl⟩ [3] rfl (by decide) rfl (Nat.le_of_ble_eq_true rfl) dX4_init_41) (wr := [(h, .inr (6, [.ref q1, .ref q2, .ref q3, .null, .null])), (q1, .inl (cy 4, 3, .inr (.inr (.inr (.inr (fun _ => none)))))), (q2, .inl (cy 4, 3, .inr (.inr (.inr (.inr (fun _ => none))))))]) [0, 1, 2] rfl (by decide) (by decide) (Nat.le_refl _) (Nat.le_refl _) (fun q4l _ => ?_)
  refine j_putF C (Cn := RX4) (T := TX4) (ty := tyX4) (N := 5) (ws1 := [(h, .inr (6, [.ref q1, .ref q2, .ref q3, .ref q4, .null])), (q1, .inl (cy 4, 3, .inr (.inr (.inr (.inr (fun _ => none)))))), (q2, .inl (cy 4, 3, .inr (.inr (.inr (.inr (fun _ => none)))))), (q4, .inr (9, [.ref q4l, .int (nI 0)])), (q4l, .inl (cy 0, 7200, .inl (fun _ => 0)))]) fin_X4_init_RX4 tyX4_ok nmX4 0 rfl rfl 3 (by decide) (by decide +kernel) rfl hnm rfl rfl rfl (Nat.le_of_ble_eq_true rfl) rfl dX4_init_44 ?_
  refine j_ws (ws1 := [(h, .inr (6, [.ref q1, .ref q2, .ref q3, .ref q4, .null])), (q1, .inl (cy 4, 3, .inr (.inr (.inr (.inr (fun _ => none)))))), (q2, .inl (cy 4, 3, .inr (.inr (.inr (.inr (fun _ => none))))))]) [0, 1, 2] rfl (by decide) ?_
  refine j_iconst C (v := (nI 0)) (by decide +kernel) dX4_init_47 ?_
  refine j_istore_n C (lo1 := [(1, .int (nI 0)), (0, .ref h)]) rfl (by decide) rfl dX4_init_48 ?_
  refine j_lo (lo1 := [(1, .int (nI 0)), (0, .ref h)]) [0, 1] rfl ?_
  have lp : ∀ (d9 : Nat) (i : Nat) (g1 : Nat → Option Nat) (g2 : Nat → Option Nat), 3 - i < d9 → (i ≤ 3) → J p l e (fz_rm 2 18 18322 41) s m args below meth c (MQ below (va_Qv (fun (_ : Unit) => True) (fz_B G (fun _ => []) A) A) args s 18 18322 A) G A 2 [(h, .inr (6, [.ref q1, .ref q2, .ref q3, .ref q4, .null])), (q1, .inl (cy 4, 3, .inr (.inr (.inr (.inr g1))))), (q2, .inl (cy 4, 3, .inr (.inr (.inr (.inr g2)))))] (6 + 4 * i) (7330 + 3664 * i) 49 [(1, .int (nI i)), (0, .ref h)] [] := by
    intro d9
    induction d9 with
    | zero => intro i g1 g2 hd9; exact absurd hd9 (Nat.not_lt_zero _)
    | succ d9 ih =>
      intro i g1 g2 hd9 hi
      refine j_iload_n C rfl 0 rfl dX4_init_49 ?_
      refine j_iconst C (v := (nI 3)) (by decide +kernel) dX4_init_50 ?_
      refine j_icmp_ge C (P := 3 ≤ i) (nI_leI (by omega) (by omega)) (tgt := 91) (by decide) dX4_init_51 (fun ht => ?_) (fun hq => ?_)
      · have hi9 : i = 3 := by omega
        subst hi9
        exact j_vret C () trivial [] rfl (by decide) (Nat.le_of_ble_eq_true rfl) (Nat.le_of_ble_eq_true rfl) dX4_init_91
      · refine j_aload_n C rfl 1 rfl dX4_init_54 ?_
        refine j_getf C (Cn := RX4) (T := TX4) (N := 5) fin_X4_init_RX4 0 rfl rfl 0 (by decide) (by decide +kernel) rfl dX4_init_55 ?_
        refine j_iload_n C rfl 0 rfl dX4_init_58 ?_
        refine j_new C (Cn := RX7) (T := TX7) (ty := tyX7) (N := 2) (ci := 9) (fs := [.null, .int (nI 0)]) (k1 := 6 + 4 * i + 1) (n1 := 7330 + 3664 * i + 2) fin_X4_init_RX7 tyX7_ok (by decide +kernel) (by decide +kernel) (by decide +kernel) rfl (fun j hj => by rcases (show j = 0 ∨ j = 1 by omega) with rfl | rfl <;> rfl) ((show 6 + 4 * i + 1 ≤ 18 by omega)) ((show 7330 + 3664 * i + 2 ≤ 18322 by omega)) (Nat.le_refl _) (Nat.le_refl _) dX4_init_59 (fun r1 => ?_)
        refine j_dup C rfl dX4_init_62 ?_
        refine j_bipush C (v := (nI 60)) (by decide +kernel) dX4_init_63 ?_
        refine j_resv (k1 := 6 + 4 * i + 1 + 1) (n1 := 7330 + 3664 * i + 2 + 60) C (j_runI C (c_X7_init (R := 60) (Nat.le_of_ble_eq_true rfl) (Nat.le_of_ble_eq_true rfl)) gX4_init_X7_init rfl (by decide +kernel) (by decide +kernel) (by decide +kernel) rfl hdS_X7_init ⟨Nat.le_of_ble_eq_true rfl, Nat.le_of_ble_eq_true rfl⟩ ⟨(show 6 + 4 * i + 1 + 1 ≤ 18 by omega), (show 7330 + 3664 * i + 2 + 60 ≤ 18322 by omega)⟩ [3] rfl (by decide) rfl (Nat.le_of_ble_eq_true rfl) dX4_init_65) (wr := [(h, .inr (6, [.ref q1, .ref q2, .ref q3, .ref q4, .null])), (q1, .inl (cy 4, 3, .inr (.inr (.inr (.inr g1))))), (q2, .inl (cy 4, 3, .inr (.inr (.inr (.inr g2)))))]) [0, 1, 2] rfl (by decide) (by decide) (Nat.le_refl _) (Nat.le_refl _) (fun r1l _ => ?_)
        refine j_aast C 1 4 3 9 rfl rfl rfl rfl (j := i) (by omega) (by omega) (ws1 := [(h, .inr (6, [.ref q1, .ref q2, .ref q3, .ref q4, .null])), (q1, .inl (cy 4, 3, .inr (.inr (.inr (.inr (va_up g1 i (some r1))))))), (q2, .inl (cy 4, 3, .inr (.inr (.inr (.inr g2))))), (r1, .inr (9, [.ref r1l, .int (nI 0)])), (r1l, .inl (cy 0, 60, .inl (fun _ => 0)))]) rfl dX4_init_68 ?_
        refine j_ws (ws1 := [(h, .inr (6, [.ref q1, .ref q2, .ref q3, .ref q4, .null])), (q1, .inl (cy 4, 3, .inr (.inr (.inr (.inr (va_up g1 i (some r1))))))), (q2, .inl (cy 4, 3, .inr (.inr (.inr (.inr g2)))))]) [0, 1, 2] rfl (by decide) ?_
        refine j_aload_n C rfl 1 rfl dX4_init_69 ?_
        refine j_getf C (Cn := RX4) (T := TX4) (N := 5) fin_X4_init_RX4 0 rfl rfl 1 (by decide) (by decide +kernel) rfl dX4_init_70 ?_
        refine j_iload_n C rfl 0 rfl dX4_init_73 ?_
        refine j_new C (Cn := RX7) (T := TX7) (ty := tyX7) (N := 2) (ci := 9) (fs := [.null, .int (nI 0)]) (k1 := 6 + 4 * i + 1 + 1 + 1) (n1 := 7330 + 3664 * i + 2 + 60 + 2) fin_X4_init_RX7 tyX7_ok (by decide +kernel) (by decide +kernel) (by decide +kernel) rfl (fun j hj => by rcases (show j = 0 ∨ j = 1 by omega) with rfl | rfl <;> rfl) ((show 6 + 4 * i + 1 + 1 + 1 ≤ 18 by omega)) ((show 7330 + 3664 * i + 2 + 60 + 2 ≤ 18322 by omega)) (Nat.le_refl _) (Nat.le_refl _) dX4_init_74 (fun r2 => ?_)
        refine j_dup C rfl dX4_init_77 ?_
        refine j_sipush C (v := (nI 3600)) (by decide +kernel) dX4_init_78 ?_
        refine j_resv (k1 := 6 + 4 * i + 1 + 1 + 1 + 1) (n1 := 7330 + 3664 * i + 2 + 60 + 2 + 3600) C (j_runI C (c_X7_init (R := 3600) (Nat.le_of_ble_eq_true rfl) (Nat.le_of_ble_eq_true rfl)) gX4_init_X7_init rfl (by decide +kernel) (by decide +kernel) (by decide +kernel) rfl hdS_X7_init ⟨Nat.le_of_ble_eq_true rfl, Nat.le_of_ble_eq_true rfl⟩ ⟨(show 6 + 4 * i + 1 + 1 + 1 + 1 ≤ 18 by omega), (show 7330 + 3664 * i + 2 + 60 + 2 + 3600 ≤ 18322 by omega)⟩ [3] rfl (by decide) rfl (Nat.le_of_ble_eq_true rfl) dX4_init_81) (wr := [(h, .inr (6, [.ref q1, .ref q2, .ref q3, .ref q4, .null])), (q1, .inl (cy 4, 3, .inr (.inr (.inr (.inr (va_up g1 i (some r1))))))), (q2, .inl (cy 4, 3, .inr (.inr (.inr (.inr g2)))))]) [0, 1, 2] rfl (by decide) (by decide) (Nat.le_refl _) (Nat.le_refl _) (fun r2l _ => ?_)
        refine j_aast C 2 4 3 9 rfl rfl rfl rfl (j := i) (by omega) (by omega) (ws1 := [(h, .inr (6, [.ref q1, .ref q2, .ref q3, .ref q4, .null])), (q1, .inl (cy 4, 3, .inr (.inr (.inr (.inr (va_up g1 i (some r1))))))), (q2, .inl (cy 4, 3, .inr (.inr (.inr (.inr (va_up g2 i (some r2))))))), (r2, .inr (9, [.ref r2l, .int (nI 0)])), (r2l, .inl (cy 0, 3600, .inl (fun _ => 0)))]) rfl dX4_init_84 ?_
        refine j_ws (ws1 := [(h, .inr (6, [.ref q1, .ref q2, .ref q3, .ref q4, .null])), (q1, .inl (cy 4, 3, .inr (.inr (.inr (.inr (va_up g1 i (some r1))))))), (q2, .inl (cy 4, 3, .inr (.inr (.inr (.inr (va_up g2 i (some r2)))))))]) [0, 1, 2] rfl (by decide) ?_
        refine j_iinc C (v := (nI (i + 1))) (lo1 := [(1, .int (nI (i + 1))), (0, .ref h)]) 0 rfl (fx_inc i 1) (by decide) rfl dX4_init_85 ?_
        refine j_goto C (tgt := 49) (by decide) dX4_init_88 ?_
        refine j_lo (lo1 := [(1, .int (nI (i + 1))), (0, .ref h)]) [0, 1] rfl ?_
        refine j_widen (k1 := 6 + 4 * (i + 1)) (n1 := 7330 + 3664 * (i + 1)) (by omega) (by omega) ?_
        exact ih (i + 1) _ _ (by omega) (by omega)
  exact lp 4 0 _ _ (by omega) (by omega)
end
