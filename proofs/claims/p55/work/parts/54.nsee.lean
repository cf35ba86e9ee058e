/-! java/util/NoSuchElementException(String): its super call is constant 13 -/
section FZN
def fz_nm2 : List String := ["java/lang/RuntimeException", "java/lang/Exception"]
def fz_ful : List Cond := (Bundle.ownAtoms RX9 128 fz_nN fz_nm2).map fz_sw
theorem fz_ful_at {args : Array Value} {s : State} (h1 : ∀ w ∈ fz_atN, w.before args s = true)
    (hU : (Cond.isRef (.static Bundle.tN "UNASSIGNED_STACK" Bundle.steD)).before args s = true) (hN : (Cond.isRef (.static Bundle.tN "SUPPRESSED_SENTINEL" Bundle.listD)).before args s = true)
    (lU : (Cond.laysStatic Bundle.tN "UNASSIGNED_STACK" Bundle.steD).before args s = true) (lN : (Cond.laysStatic Bundle.tN "SUPPRESSED_SENTINEL" Bundle.listD).before args s = true) : ∀ w ∈ fz_ful, w.before args s = true := by
  refine vx_own (L := fz_ful) (fun w hw => h1 w ?_) hU hN lU lN
  exact (show ∀ w ∈ fz_ful.filter vx_no, w ∈ fz_atN by decide +kernel) w hw
variable {p : Program} {l : Launch} {e : Env} {R : Room} {s : State} {m : MethodId} {args : Array Value} {below : List Frame} {meth : Method} {c : Code} {T9 : State} {locs : List Loc} {cells slots : Nat}
/-- the chain of the constructors -/
theorem fz_chainN {pl : Platform} (hpl : pl.magicAccessors = ({} : Platform).magicAccessors) {top : MethodId} (htop : s.methodNamed? (Bundle.initS Bundle.tN) = some top) (h : ∀ w ∈ fz_ful, w.before args s = true) :
    ∃ (P1 : PassC) (Ps : List PassC), Ps.length = 2 ∧ P1.LinksS pl s ∧ (∀ P, P ∈ Ps → P.LinksS pl s) ∧ s.methodNamed? (Bundle.initS fz_nN) = some P1.m ∧ P1.sup = firstOf top (Ps.map (·.toPassT)) ∧ PassesOn top (Ps.map (·.toPassT)) := by
  obtain ⟨P1, k1, k2, k3⟩ := PassC.ofS_atoms (args := args) (s := s) hpl (X := fz_nN) (Y := "java/lang/RuntimeException") (index := 13) (bytes := prog_29_method_4_code) (by decide +kernel) (by decide +kernel) (by decide +kernel) (by decide +kernel) (by decide +kernel) (by decide +kernel) (fun w hw => h w ((show ∀ w ∈ Bundle.passSAtoms fz_nN "java/lang/RuntimeException" 13 prog_29_method_4_code, w ∈ fz_ful by decide +kernel) w hw))
  obtain ⟨P2, Ps, g0, g1, g2, g3, g4, g5⟩ := Bundle.chainS (args := args) hpl htop ["java/lang/Exception"] "java/lang/RuntimeException" (by decide +kernel) (by decide +kernel) (fun w hw => h w ((show ∀ w ∈ Bundle.chainSAtoms "java/lang/RuntimeException" ["java/lang/Exception"], w ∈ fz_ful by decide +kernel) w hw))
  have e : P1.sup = P2.m := Option.some.inj (k3.symm.trans g3)
  refine ⟨P1, P2 :: Ps, by simp [g0], k1, fun P hP => ?_, k2, e, g4, g5⟩
  rcases List.mem_cons.mp hP with z | z
  · rw [z]; exact g1
  · exact g2 P z
set_option maxHeartbeats 2000000 in
/-- the object made and thrown, no trace kept -/
theorem fz_ctorN (X : Stand p l e R s m args below meth c T9 locs cells slots) (hexec : p.tables.exec = Jvm.exec) (htr : e.platform.stackTraces = false) (hown : s.vm.findClass RX9 = some m.cls) (h : ∀ w ∈ fz_ful, w.before args s = true)
    (hlocs : ∀ x ∈ locs, ∀ cell, s.heap[x.base]? = some cell → cell.vm.isStatics = false) {a : Addr} {cX : ClassId} {kX : Class} (hfX : s.vm.findClass fz_nN = some cX) (hkX : s.vm.classes[cX]? = some kX) (hcell : T9.heap[a]? = some (freshCell cX kX)) (hnew : s.heap.size ≤ a)
    {msg : Value} (hmsg : msg.isRef = true) {g : JFrame} (hg : g.method = m) (hsize : g.locals.size = c.maxLocals) (hlocked : g.locked = none) (hentered : g.entered = []) {rest : List Value} (hstack : g.stack = msg :: .ref a :: .ref a :: rest)
    (hd6 : decode c.code g.pc = .ok (.invokespecial 128, 3)) (hd9 : decode c.code (g.pc + 3) = .ok (.athrow, 1)) (hout : ∀ x ∈ c.exceptionTable.toList, covers x (g.pc + 3) = false)
    (hRf : 5 < R.frames) (hRl : 2 * g.monitorRoom + ((Value.ref a :: rest).map fun v => v.category).sum + 81 ≤ R.locals) (hlocks : meth.locks = false) :
    ∃ U : State, Steps p.tables e below (T9.setTop g) U ∧ U.status = .running ∧ Ended U below (.threw a) ∧ s.WarmedH U.vm ∧ s.sameButNew ({ U with vm := s.vm } : State) locs cells slots ∧ ∃ ce : Cell, U.heap[a]? = some ce ∧ ce.vm = .none ∧ s.vm.findClass fz_nN = some ce.cls := by
  have hpf := X.admits.platform
  have hpl : e.platform.magicAccessors = ({} : Platform).magicAccessors := by rw [hpf]
  have hin : ∀ {w : Cond}, w ∈ fz_ful → w.before args s = true := fun hw => h _ hw
  obtain ⟨T, Z0, L, -, Y⟩ := ThrowableC.of_atoms (args := args) (pl := e.platform) (by rw [hpf]) (by rw [hpf]) hpl (fun x hx => h x ((show ∀ w ∈ Bundle.throwableAtoms, w ∈ fz_ful by decide +kernel) x hx))
  obtain ⟨Z, M, LZ, LM, hnZ⟩ := Init0T.ofS_atoms (args := args) hpl L Y (fun x hx => h x ((show ∀ w ∈ Bundle.throwableSAtoms, w ∈ fz_ful by decide +kernel) x hx))
  obtain ⟨P1, Ps, hlen, L1, hL, hP1m, hlink1, hlink⟩ := fz_chainN (args := args) hpl hnZ h
  have hfound : s.vm.findClass fz_nN = some P1.m.cls := findClass_of_methodNamed hP1m
  obtain rfl := Option.some.inj (hfX.symm.trans hfound)
  obtain ⟨c1, k1, hc1, hk1, hord, -, -, hn6⟩ := Cond.instantiable_spec (hin (w := .instantiable fz_nN 6) (by decide +kernel))
  obtain rfl := Option.some.inj (hc1.symm.trans hfound)
  obtain rfl := Option.some.inj (hkX.symm.trans hk1)
  have sel : ∀ {t : MethodName} {mm : MethodId}, s.methodNamed? t = some mm → s.methodFound? t.cls t.name t.desc = some mm → (Cond.selects fz_nN t t).before args s = true → selectMethod e.platform s.vm P1.m.cls mm = .method mm := by
    intro t mm h1 h2 h3
    obtain ⟨c2, r2, m2, q1, q2, q3, q4, -⟩ := Cond.selects_spec h3
    obtain rfl := Option.some.inj (q1.symm.trans hfound)
    obtain rfl := Option.some.inj (q2.symm.trans h2)
    obtain rfl := Option.some.inj (q3.symm.trans h1)
    rw [Launch.admits_selectMethod X.admits]; exact q4
  have s0 := sel Y.fill0 (State.methodFound?_of_named Y.fill0 (by decide)) (hin (w := .selects fz_nN Bundle.tFill0 Bundle.tFill0) (by decide +kernel))
  have sF := sel Y.fill (State.methodFound?_of_named Y.fill (by decide)) (hin (w := .selects fz_nN Bundle.tFill Bundle.tFill) (by decide +kernel))
  obtain ⟨cs0, hcs0, hiss⟩ := Y.statics
  obtain ⟨u0, hu0⟩ := Cond.staticRefV Y.unassigned L.unassignedStatic L.statics hcs0 hiss (hin (w := .isRef (.static Bundle.tN "UNASSIGNED_STACK" Bundle.steD)) (by decide +kernel))
  obtain ⟨sen, hsen⟩ := Cond.staticRefV Y.sentinel L.sentinelStatic L.statics hcs0 hiss (hin (w := .isRef (.static Bundle.tN "SUPPRESSED_SENTINEL" Bundle.listD)) (by decide +kernel))
  obtain ⟨ciB, iB, fB, hkB, hgB, haB, hsB, -, hnB, htB, hfB⟩ := Cond.ownField (t := .object "java/lang/Object") Y.found L.cls (by decide +kernel) (hin (w := .fieldLink Bundle.tN 198 Bundle.tN "backtrace" "Ljava/lang/Object;") (by decide +kernel)) (hin (w := .lays Bundle.tN Bundle.tN "backtrace" "Ljava/lang/Object;") (by decide +kernel)) e.platform hpl
  obtain ⟨cs, hcs, heS, -, hkp⟩ := X.same.2.2.2.2.2 T.aS cs0 hcs0
  have hcs' : T9.heap[T.aS]? = some cs := hcs
  have hno : ∀ i, (⟨T.aS, i⟩ : Loc) ∉ locs := fun i z => by
    have z2 := hlocs _ z cs0 hcs0
    rw [hiss] at z2; cases z2
  have hkn : cs.vm ≠ .unknown := by
    rw [heS]; intro z
    rw [show cs0.vm = .unknown from z] at hiss
    cases hiss
  have hne : T.aS ≠ a := Nat.ne_of_lt (Nat.lt_of_lt_of_le (Array.getElem?_eq_some_iff.mp hcs0).1 hnew)
  obtain ⟨iM, hfM⟩ := Y.msg
  obtain ⟨tyC, dC, hdC, nC⟩ := Cond.laysAt hfound hk1 Y.cause (hin (w := .lays fz_nN Bundle.tN "cause" "Ljava/lang/Throwable;") (by decide +kernel))
  obtain ⟨tyS, dS, hdS, nS⟩ := Cond.laysAt hfound hk1 Y.stack (hin (w := .lays fz_nN Bundle.tN "stackTrace" Bundle.steD) (by decide +kernel))
  obtain ⟨tyP, dP, hdP, nP⟩ := Cond.laysAt hfound hk1 Y.supp (hin (w := .lays fz_nN Bundle.tN "suppressedExceptions" Bundle.listD) (by decide +kernel))
  obtain ⟨tyM, dM, hdM, nM⟩ := Cond.laysAt hfound hk1 hfM (hin (w := .lays fz_nN Bundle.tN "detailMessage" "Ljava/lang/String;") (by decide +kernel))
  obtain ⟨tyB, dB, hdB, nB⟩ := Cond.laysAt hfound hk1 hfB (hin (w := .lays fz_nN Bundle.tN "backtrace" "Ljava/lang/Object;") (by decide +kernel))
  have bC := Cond.laysApart hdB hdC nB nC (by rw [hnB, Y.causeName]; decide)
  have bS := Cond.laysApart hdB hdS nB nS (by rw [hnB, Y.stackName]; decide)
  have bP := Cond.laysApart hdB hdP nB nP (by rw [hnB, Y.suppName]; decide)
  have hskip : SkipFacts T e.platform s (fun u => u) u0 ((preparedCellV T.toThrowableT (freshCell P1.m.cls kX) a u0 sen).withEntry T9.cur) :=
    ⟨{ ci198 := ciB, i198 := iB, fBack := fB }, ⟨hkB, hgB, haB, hsB⟩, by
      have z := fresh_default (c := P1.m.cls) tyB
      rw [htB] at z
      simpa [preparedCellV, Cell.setSlot, Cell.withEntry, Array.getElem?_setIfInBounds, bC, bS, bP, bC.symm, bS.symm, bP.symm, defaultValue] using z, fun _ _ => rfl⟩
  obtain ⟨tm, mC, cdC, kC, v1, hnC, -, -, -, -, -, -, -, hW1, st1⟩ := Steps.initColdS (tb := p.tables) (e := e) (below := below) (s := s) (U := T9) X.here hexec X.warmed hpl hown (idx := 128) (t := Bundle.initS fz_nN) rfl rfl (by decide +kernel)
    (hin (w := .methodLink RX9 128 (Bundle.initS fz_nN)) (by decide +kernel)) (hin (w := .instanceMethod (Bundle.initS fz_nN)) (by decide +kernel)) (bytes := prog_29_method_4_code) (maxL := 2) (hin (w := .code (Bundle.initS fz_nN) prog_29_method_4_code 2 none) (by decide +kernel))
    (f := g) hg (a := a) (msg := msg) (rest := .ref a :: rest) hstack hd6
  obtain rfl := Option.some.inj (hnC.symm.trans hP1m)
  have X1 := X.noted hW1
  obtain ⟨v2, X2, st2⟩ := X1.ctorMessageOffV hexec (g := { g with stack := .ref a :: rest }) hg hsize T L Z LZ M LM (P1 :: Ps)
    (fun P hP => by rcases List.mem_cons.mp hP with z | z; · rw [z]; exact L1
                    · exact hL P z) ⟨hlink1, hlink⟩ (u0 := u0) (sen := sen) (self := a) hmsg (cell := freshCell P1.m.cls kX) (cellS := cs)
    hcell (fun _ => by simp) (by simp) rfl rfl s0 sF hcs' hne hkn (by rw [hkp _ (hno _)]; exact hu0) (by rw [hkp _ (hno _)]; exact hsen)
    (Takes.of_laid hk1 hord tyC (by rw [Y.causeType]; rfl)) (Takes.of_laid hk1 hord tyS (by rw [Y.stackType]; exact fits_refV_array _ u0)) (Takes.of_laid hk1 hord tyP (by rw [Y.suppType]; exact fits_refV_object _ sen))
    (Takes.of_laid hk1 hord tyM (by rw [Y.msgType]; exact fits_refV_object _ ⟨msg, hmsg⟩)) Y.objLocals hskip htr [] hd6
    (by simp only [List.length_cons, hlen]; omega) (by simp only [List.length_cons, hlen]; omega)
  obtain ⟨hwalk, hrun, hended, hWU, hsame⟩ := X2.athrowLeaves hexec (g := { g with stack := .ref a :: rest, pc := g.pc + 3 }) hg hlocked hentered hout (a := a) (rest := rest) rfl hd9
  have hlt : a < ((T9.setVm v1).setVm v2).heap.size := (Array.getElem?_eq_some_iff.mp hcell).1
  have hU := heapAt_setCell_self (s := (T9.setVm v1).setVm v2) (plainBareV T.toThrowableT (freshCell P1.m.cls kX) a u0 sen msg) hlt
  refine ⟨_, st1 _ (fun acts => ?_), hrun, hended, hWU, hsame.weaken (fun y hy hl9 => ?_) (Nat.le_refl _) (Nat.le_refl _), _, hU, rfl, hfound⟩
  · rw [doInvoke_state]
    exact st2 _ hwalk
  · rcases List.mem_append.mp hy with z | z
    · exact z
    · have hb : y.base = a := by
        simp only [List.mem_cons, List.not_mem_nil, or_false] at z
        rcases z with rfl | rfl | rfl | rfl | rfl <;> rfl
      rw [hb] at hl9
      exact absurd hl9 (Nat.not_lt.mpr hnew)
/-- 'throw new NoSuchElementException("text")' -/
theorem fz_throwN {H : Heap} {Qc : Array Value → State → Outcome → State → Prop} {XC : String → State → State → Prop} {free : Nat → Prop} {rest : List Value} {ls : Array Slot} {cc : ByteArray} {pc : Nat} (hexec : p.tables.exec = Jvm.exec) (hb : c.code = cc) (hl : l.stackTraces = false) {text : String} {ik is mc ms sa : Nat} {A : Nat → Prop}
    (hown : s.vm.findClass RX9 = some m.cls) (hk : (Cond.classLink RX9 ik fz_nN).before args s = true) (hini : (Cond.initialized fz_nN).before args s = true) (hstr : vk_R RX9 is text sa s) (hat : ∀ w ∈ fz_atN, w.before args s = true)
    (hgood : ∀ w ∈ Cond.classLink RX9 ik fz_nN :: Cond.initialized fz_nN :: fz_atN, vx_ot w = true)
    (hU : vx_Zq Bundle.tN "UNASSIGNED_STACK" Bundle.steD A s s.heap) (hN : vx_Zq Bundle.tN "SUPPRESSED_SENTINEL" Bundle.listD A s s.heap) (hS : va_S A s.heap H locs) (hsize : ls.size = c.maxLocals)
    (d0 : decode cc pc = .ok (.new ik, 3)) (d3 : decode cc (pc + 3) = .ok (.dup, 1)) (d4 : decode cc (pc + 4) = .ok (.ldc is, 2)) (d6 : decode cc (pc + 6) = .ok (.invokespecial 128, 3)) (d9 : decode cc (pc + 9) = .ok (.athrow, 1))
    (hout : ∀ x ∈ c.exceptionTable.toList, covers x (pc + 9) = false)
    (hRf : 5 < R.frames) (hRl : (rest.map fun v => v.category).sum + 82 ≤ R.locals) (hRc : cells + 1 ≤ R.cells) (hRs : slots + 6 ≤ R.slots) (hlocks : meth.locks = false)
    (hx : ∀ t : State, s.vm.Alike t.vm → H.size ≤ t.heap.size → (∀ q : Nat, q < H.size → t.heap[q]? = H[q]?) → XC fz_nN s t)
    (hf : ∀ z ∈ locs, free z.base) (hc : cells + 1 ≤ mc) (hs : slots + 6 ≤ ms) :
    W p l e R s m args below meth c H locs cells slots (vx_MQ below Qc XC args s mc ms free) (F0 m pc ls rest) := by
  intro T hT X
  have htr : e.platform.stackTraces = false := by rw [X.admits.platform]; exact hl
  have Y := vx_rebase X (R' := { frames := R.frames, locals := R.locals, cells := 1, slots := 6 }) (Nat.le_refl _) (Nat.le_refl _) hRc hRs
  obtain ⟨s', hA⟩ : ∃ z, z = (T.setVm s.vm).setFrames (.invoking m args :: below) := ⟨_, rfl⟩
  rw [← hA] at Y
  have hvm : s'.vm = s.vm := by rw [hA]; rfl
  have hhp : s'.heap = H := by rw [hA]; exact hT
  have hW0 : s.WarmedH s'.vm := by rw [hvm]; exact State.WarmedH.refl s
  have mv : ∀ {w : Cond}, w ∈ Cond.classLink RX9 ik fz_nN :: Cond.initialized fz_nN :: fz_atN → w.before args s = true → w.before args s' = true := fun hw h => vx_ot_at hW0 hvm.symm (hgood _ hw) h
  have hat' : ∀ w ∈ fz_atN, w.before args s' = true := fun w hw => mv (List.mem_cons_of_mem _ (List.mem_cons_of_mem _ hw)) (hat w hw)
  have hU' : vx_Zq Bundle.tN "UNASSIGNED_STACK" Bundle.steD A s' s'.heap := by rw [hhp]; exact vx_Zq.moved hW0.alike (hU.kept hS.2.1)
  have hN' : vx_Zq Bundle.tN "SUPPRESSED_SENTINEL" Bundle.listD A s' s'.heap := by rw [hhp]; exact vx_Zq.moved hW0.alike (hN.kept hS.2.1)
  have h := fz_ful_at hat' (vx_isRefq hU'.1) (vx_isRefq hN'.1) hU'.2.word hN'.2.word
  have hown' : s'.vm.findClass RX9 = some m.cls := by rw [hvm]; exact hown
  obtain ⟨v1, cX, kX, hfX, hkX, -, -, X1, st1⟩ := Y.newCold hexec (own := RX9) (C := fz_nN) (index := ik) (n := 6) hown' (mv List.mem_cons_self hk) (h (.instantiable fz_nN 6) (by decide +kernel)) (mv (List.mem_cons_of_mem _ List.mem_cons_self) hini)
    (g := F0 m pc ls rest) rfl (by rw [hb]; exact d0) (Nat.le_refl _) (Nat.le_refl _)
  generalize hT1 : (T.setVm v1).pushCell { cls := cX, slots := kX.instanceTypes.map defaultValue, vm := .none } = T1 at X1 st1
  have hcat : (Value.ref T.heap.size).category = 1 := rfl
  have hcellA : T1.heap[T.heap.size]? = some (freshCell cX kX) := by rw [← hT1]; exact State.heap_pushCell_size _ _
  have d3' : decode c.code (pc + 3) = .ok (.dup, 1) := by rw [hb]; exact d3
  have d4' : decode c.code (pc + 4) = .ok (.ldc is, 2) := by rw [hb]; exact d4
  have hstr' : vk_R RX9 is text sa s' := vk_R.warm hW0 hstr
  obtain ⟨U, hsteps, hrun, hend, hW, hsame, ce, hce, hcv, hcl⟩ := fz_ctorN X1 hexec htr hown' h (fun x hx => nomatch hx) hfX hkX hcellA (by rw [hhp, hT]; exact Nat.le_refl _) (msg := .ref sa) rfl
    (g := { method := m, pc := pc + 6, locals := ls, stack := .ref sa :: .ref T.heap.size :: .ref T.heap.size :: rest, locked := none }) rfl hsize rfl rfl (rest := rest) rfl
    (by rw [hb]; exact d6) (by rw [hb]; exact d9) hout hRf (by simp only [List.map_cons, List.sum_cons, hcat]; have z : JFrame.monitorRoom { method := m, pc := pc + 6, locals := ls, stack := .ref sa :: .ref T.heap.size :: .ref T.heap.size :: rest, locked := none } = 0 := rfl; omega) hlocks
  obtain ⟨f1, f2⟩ := vx_frame hsame
  rw [hhp] at f1 f2
  have hWs : s.WarmedH U.vm := State.WarmedH.trans hW0 hW
  have hcl9 : s.vm.findClass fz_nN = some ce.cls := by rw [hvm] at hcl; exact hcl
  have hall : s.sameButNew ({ U with vm := s.vm } : State) locs mc ms := by
    subst hA
    obtain ⟨e1, e2⟩ := hsame
    rw [State.setFrames_setFrames] at e1
    have h2 : (T.setVm s.vm).sameButNew ({ U with vm := s.vm } : State) [] (0 + 1) (0 + 6) := ⟨e1, e2⟩
    have h3 := X.same.trans h2
    rw [List.append_nil] at h3
    exact h3.mono hc hs
  refine ⟨U, ?_, .threw T.heap.size, hrun, hend, Or.inr ⟨T.heap.size, rfl, fz_nN, ce, locs, hx U hWs.alike f1 (fun q hq => f2 q hq (fun z hz => nomatch hz)), hce, hcv, hcl9, hWs, hall, hf⟩⟩
  refine st1 _ ?_
  show Steps p.tables e below (T1.setTop { method := m, pc := pc + 3, locals := ls, stack := .ref T.heap.size :: rest, locked := none }) _
  jvm_step X1.here [X1.here.top, hexec, d3', Value.category]
  exact X1.ldcString hexec (own := RX9) (text := text) (index := is) (a := sa) hown' hstr'.1 hstr'.2
    (g := { method := m, pc := pc + 4, locals := ls, stack := .ref T.heap.size :: .ref T.heap.size :: rest, locked := none }) rfl d4' _ hsteps
end FZN
section FZO
variable {p : Program} {l : Launch} {e : Env} {R : Room} {s : State} {m : MethodId} {args : Array Value} {below : List Frame} {meth : Method} {c : Code} {G : va_G} {cy : Nat → ClassId} {A : Nat → Prop} {nL : Nat} {cc : ByteArray} {Ts : List Cond} {ret : Option FieldType}
variable {ws : va_W} {k n pc : Nat} {lo : List (Nat × Value)} {st : List Value}
theorem j_throwN (C : fz_C p c s m args nL cc Ts RX9 meth ret G cy A) (hl9 : l.stackTraces = false) {text : String} {ik is9 mc ms : Nat} {wc : va_W} (hk : Cond.classLink RX9 ik fz_nN ∈ Ts) (hini : Cond.initialized fz_nN ∈ Ts) (htx : (is9, text) ∈ fz_tx) (hg1 : ∀ w ∈ fz_atN.filter goodWord, w ∈ Ts) (hg2 : ∀ w ∈ fz_atN.filter (fun w => !goodWord w), w ∈ fz_bd fz_nN)
    (hgood : ∀ w ∈ Cond.classLink RX9 ik fz_nN :: Cond.initialized fz_nN :: fz_atN, vx_ot w = true)
    (d0 : decode cc pc = .ok (.new ik, 3)) (d3 : decode cc (pc + 3) = .ok (.dup, 1)) (d4 : decode cc (pc + 4) = .ok (.ldc is9, 2)) (d6 : decode cc (pc + 6) = .ok (.invokespecial 128, 3)) (d9 : decode cc (pc + 9) = .ok (.athrow, 1))
    (htb : ∀ x ∈ c.exceptionTable.toList, False) (hRf : 5 < R.frames) (hRl : (st.map fun v => v.category).sum + 82 ≤ R.locals) (hRc : k + 1 ≤ R.cells) (hRs : n + 6 ≤ R.slots) (is : List Nat) (hs : is.map (fun i => ws[i]?) = wc.map some) (hn : va_nd is = true) (hc : k + 1 ≤ mc) (hm : n + 6 ≤ ms) :
    J p l e R s m args below meth c (vx_MQ below (va_Qi (fun (_ : Int32) (_ : Unit) => False) (fun _ _ => True) A) (vx_X (fun _ : Unit => True) (fun E9 _ t => E9 = "java/util/NoSuchElementException" ∧ va_P G vwCl wc t.heap ∧ va_D A wc) A) args s mc ms A) G A nL ws k n pc lo st := by
  intro H locs ls hP hD hS hl
  obtain ⟨sa, hsa⟩ := C.2.2.2.2.2.2.2.1 _ htx
  refine fz_throwN C.1.1 C.1.2.1 hl9 (sa := sa) (text := text) (is := is9) C.1.2.2.2.1 (C.1.2.2.2.2 _ hk) (C.1.2.2.2.2 _ hini) hsa (fz_hat C.1.2.2.2.2 hg1 hg2 (C.2.2.2.2.2.2.2.2.2.2.2.1.1 _ (by decide)) C.2.2.2.2.2.2.2.2.2.2.2.1.2) hgood C.2.2.2.2.2.2.1.1 C.2.2.2.2.2.2.1.2 hS (by rw [C.1.2.2.1]; exact hl.1) d0 d3 d4 d6 d9 (fun x hx => (htb x hx).elim) hRf hRl hRc hRs C.2.2.1 (fun t hvm hz hq => ⟨(), trivial, ⟨rfl, ?_, hD.sub is hn hs⟩, Nat.le_trans hS.1 hz, fun q h1 h2 => (hq q (Nat.lt_of_lt_of_le h1 hS.1)).trans (hS.2.1 q h1 h2)⟩) hS.2.2 hc hm
  exact (fz_at is hs hP).kept (fun i q hq9 => hq q.1 ((fz_at is hs hP i q hq9).lt))
end FZO
set_option maxHeartbeats 4000000 in
set_option maxRecDepth 100000 in
/-- letter: behind the last -/
theorem x_X9_letter {l : Launch} {G : va_G} {cy : Nat → ClassId} (hl9 : l.stackTraces = false) {h ty aw dr se : Nat} {ad : Nat → Nat} {tn : Int32} {wn : Nat} {g : Nat → Option Nat} {a1 b1 i k : Nat} {xs : List Nat} (hw : wn ≤ 24) (hi : i < wn) (hg1 : g i = some a1) (hk : k = xs.length) (hx : xs.length ≤ 60) : Kx l yX9_letter wsX9_letter G cy [.ref h, .int (nI i), .int (nI k)] [(h, .inr (11, [.ref ty, .int tn, .ref aw, .int (nI wn), .ref (ad 4), .ref (ad 5), .ref (ad 6), .int (nI 0), .ref (ad 8), .int (nI 0), .ref dr, .ref se, .ref (ad 12), .ref (ad 13), .ref (ad 14), .ref (ad 15), .ref (ad 16), .ref (ad 17)])), (aw, .inl (cy 4, 24, .inr (.inr (.inr (.inr g))))), (a1, .inr (9, [.ref b1, .int (nI xs.length)]))] "java/util/NoSuchElementException" 6 1 6 100 := by
  refine Kx_of (cc := cX9_letter) (nL := 4) (by decide) rfl (Nat.le_of_ble_eq_true rfl) ?_
  intro p e s m args below meth c A C hnm htb
  refine j_lo (lo1 := [(0, .ref h), (1, .int (nI i)), (2, .int (nI k))]) [0, 1, 2] rfl ?_
  refine j_aload_n C rfl 0 rfl dX9_letter_0 ?_
  refine j_iload_n C rfl 1 rfl dX9_letter_1 ?_
  refine j_resr (k1 := 0) (n1 := 0) C (j_runV C (c_X9_wordAt (i := i) (a1 := a1) (by omega) (by omega) (by assumption)) gX9_letter_X9_wordAt rfl hdV_X9_wordAt ⟨Nat.le_of_ble_eq_true rfl, Nat.le_of_ble_eq_true rfl⟩ ⟨Nat.le_of_ble_eq_true rfl, Nat.le_of_ble_eq_true rfl⟩ 0 rfl rfl rfl [0, 1] rfl (by decide) rfl (Nat.le_of_ble_eq_true rfl) dX9_letter_2) (wr := [(a1, .inr (9, [.ref b1, .int (nI xs.length)]))]) [2] rfl (by decide) (by decide) (Nat.le_refl _) (Nat.le_refl _) (fun u9 a9 ha9 => ?_)
  subst ha9
  refine j_astore_n C (lo1 := [(3, .ref a1), (0, .ref h), (1, .int (nI i)), (2, .int (nI k))]) rfl (by decide) rfl dX9_letter_5 ?_
  refine j_iload_n C rfl 3 rfl dX9_letter_6 ?_
  refine j_if_lt C (P := False) (fx_lt0 (by omega)) (tgt := 18) (by decide) dX9_letter_7 (fun ht => absurd ht (id)) (fun hq => ?_)
  refine j_iload_n C rfl 3 rfl dX9_letter_10 ?_
  refine j_aload_n C rfl 0 rfl dX9_letter_11 ?_
  refine j_getf C (Cn := RX7) (T := TX7) (N := 2) fin_X9_letter_RX7 0 rfl rfl 1 (by decide) (by decide +kernel) rfl dX9_letter_12 ?_
  refine j_icmp_lt C (P := k < xs.length) (nI_ltI (by omega) (by omega)) (tgt := 28) (by decide) dX9_letter_15 (fun ht => absurd ht (by omega)) (fun hq => ?_)
  exact j_throwN C hl9 (text := "no such letter") (ik := 124) (is9 := 126) (mc := 1) (ms := 6) (by decide +kernel) (by decide +kernel) (by decide +kernel) (by decide +kernel) (by decide +kernel) (by decide +kernel) dX9_letter_18 dX9_letter_21 dX9_letter_22 dX9_letter_24 dX9_letter_27 htb (Nat.le_of_ble_eq_true rfl) (Nat.le_of_ble_eq_true rfl) (Nat.le_of_ble_eq_true rfl) (Nat.le_of_ble_eq_true rfl) [1, 2, 0] rfl (by decide) (Nat.le_of_ble_eq_true rfl) (Nat.le_of_ble_eq_true rfl)
set_option maxHeartbeats 4000000 in
set_option maxRecDepth 100000 in
/-- exponent of the empty word -/
theorem x_X9_exponent {l : Launch} {G : va_G} {cy : Nat → ClassId} (hl9 : l.stackTraces = false) {h ty aw dr se : Nat} {ad : Nat → Nat} {tn : Int32} {wn : Nat} {g : Nat → Option Nat} {a1 b1 i : Nat} {xs : List Nat} (hw : wn ≤ 24) (hi : i < wn) (hg1 : g i = some a1) (hx : xs.length = 0) : Kx l yX9_exponent wsX9_exponent G cy [.ref h, .int (nI i)] [(h, .inr (11, [.ref ty, .int tn, .ref aw, .int (nI wn), .ref (ad 4), .ref (ad 5), .ref (ad 6), .int (nI 0), .ref (ad 8), .int (nI 0), .ref dr, .ref se, .ref (ad 12), .ref (ad 13), .ref (ad 14), .ref (ad 15), .ref (ad 16), .ref (ad 17)])), (aw, .inl (cy 4, 24, .inr (.inr (.inr (.inr g))))), (a1, .inr (9, [.ref b1, .int (nI xs.length)]))] "java/util/NoSuchElementException" 6 1 6 100 := by
  refine Kx_of (cc := cX9_exponent) (nL := 4) (by decide) rfl (Nat.le_of_ble_eq_true rfl) ?_
  intro p e s m args below meth c A C hnm htb
  refine j_lo (lo1 := [(0, .ref h), (1, .int (nI i))]) [0, 1] rfl ?_
  refine j_aload_n C rfl 0 rfl dX9_exponent_0 ?_
  refine j_iload_n C rfl 1 rfl dX9_exponent_1 ?_
  refine j_resr (k1 := 0) (n1 := 0) C (j_runV C (c_X9_wordAt (i := i) (a1 := a1) (by omega) (by omega) (by assumption)) gX9_exponent_X9_wordAt rfl hdV_X9_wordAt ⟨Nat.le_of_ble_eq_true rfl, Nat.le_of_ble_eq_true rfl⟩ ⟨Nat.le_of_ble_eq_true rfl, Nat.le_of_ble_eq_true rfl⟩ 0 rfl rfl rfl [0, 1] rfl (by decide) rfl (Nat.le_of_ble_eq_true rfl) dX9_exponent_2) (wr := [(a1, .inr (9, [.ref b1, .int (nI xs.length)]))]) [2] rfl (by decide) (by decide) (Nat.le_refl _) (Nat.le_refl _) (fun u9 a9 ha9 => ?_)
  subst ha9
  refine j_astore_n C (lo1 := [(2, .ref a1), (0, .ref h), (1, .int (nI i))]) rfl (by decide) rfl dX9_exponent_5 ?_
  refine j_aload_n C rfl 0 rfl dX9_exponent_6 ?_
  refine j_getf C (Cn := RX7) (T := TX7) (N := 2) fin_X9_exponent_RX7 0 rfl rfl 1 (by decide) (by decide +kernel) rfl dX9_exponent_7 ?_
  refine j_if_ne C (P := xs.length = 0) (fx_eq0 (by omega)) (tgt := 23) (by decide) dX9_exponent_10 (fun ht => absurd ht (by omega)) (fun hq => ?_)
  exact j_throwN C hl9 (text := "the word is empty") (ik := 124) (is9 := 159) (mc := 1) (ms := 6) (by decide +kernel) (by decide +kernel) (by decide +kernel) (by decide +kernel) (by decide +kernel) (by decide +kernel) dX9_exponent_13 dX9_exponent_16 dX9_exponent_17 dX9_exponent_19 dX9_exponent_22 htb (Nat.le_of_ble_eq_true rfl) (Nat.le_of_ble_eq_true rfl) (Nat.le_of_ble_eq_true rfl) (Nat.le_of_ble_eq_true rfl) [1, 2, 0] rfl (by decide) (Nat.le_of_ble_eq_true rfl) (Nat.le_of_ble_eq_true rfl)
set_option maxHeartbeats 4000000 in
set_option maxRecDepth 100000 in
/-- conjugator: cores of another length -/
theorem x_X9_conjugator {l : Launch} {G : va_G} {cy : Nat → ClassId} (hl9 : l.stackTraces = false) {h ty aw dr se : Nat} {ad : Nat → Nat} {tn : Int32} {wn : Nat} {g : Nat → Option Nat} {a1 b1 i : Nat} {xs : List Nat} {f1 : Nat → Int32} {a2 b2 j : Nat} {ys : List Nat} {f2 : Nat → Int32} {e1 e2 : Nat} (hw : wn ≤ 24) (hi : i < wn) (hg1 : g i = some a1) (h16 : L6 xs) (hf1 : Hd f1 xs) (hx60 : xs.length ≤ 60) (hj : j < wn) (hg2 : g j = some a2) (h26 : L6 ys) (hf2 : Hd f2 ys) (hy60 : ys.length ≤ 60) (he1 : IsE xs e1) (he2 : IsE ys e2) (hne : ys.length - 2 * e2 ≠ xs.length - 2 * e1) : Kx l yX9_conjugator wsX9_conjugator G cy [.ref h, .int (nI i), .int (nI j)] [(h, .inr (11, [.ref ty, .int tn, .ref aw, .int (nI wn), .ref (ad 4), .ref (ad 5), .ref (ad 6), .int (nI 0), .ref (ad 8), .int (nI 0), .ref dr, .ref se, .ref (ad 12), .ref (ad 13), .ref (ad 14), .ref (ad 15), .ref (ad 16), .ref (ad 17)])), (aw, .inl (cy 4, 24, .inr (.inr (.inr (.inr g))))), (a1, .inr (9, [.ref b1, .int (nI xs.length)])), (b1, .inl (cy 0, 60, .inl f1)), (a2, .inr (9, [.ref b2, .int (nI ys.length)])), (b2, .inl (cy 0, 60, .inl f2))] "java/util/NoSuchElementException" 6 1 6 100 := by
  refine Kx_of (cc := cX9_conjugator) (nL := 6) (by decide) rfl (Nat.le_of_ble_eq_true rfl) ?_
  intro p e s m args below meth c A C hnm htb
  refine j_lo (lo1 := [(0, .ref h), (1, .int (nI i)), (2, .int (nI j))]) [0, 1, 2] rfl ?_
  refine j_aload_n C rfl 0 rfl dX9_conjugator_0 ?_
  refine j_iload_n C rfl 1 rfl dX9_conjugator_1 ?_
  refine j_resr (k1 := 0) (n1 := 0) C (j_runV C (c_X9_wordAt (i := i) (a1 := a1) (by omega) (by omega) (by assumption)) gX9_conjugator_X9_wordAt rfl hdV_X9_wordAt ⟨Nat.le_of_ble_eq_true rfl, Nat.le_of_ble_eq_true rfl⟩ ⟨Nat.le_of_ble_eq_true rfl, Nat.le_of_ble_eq_true rfl⟩ 0 rfl rfl rfl [0, 1] rfl (by decide) rfl (Nat.le_of_ble_eq_true rfl) dX9_conjugator_2) (wr := [(a1, .inr (9, [.ref b1, .int (nI xs.length)])), (b1, .inl (cy 0, 60, .inl f1)), (a2, .inr (9, [.ref b2, .int (nI ys.length)])), (b2, .inl (cy 0, 60, .inl f2))]) [2, 3, 4, 5] rfl (by decide) (by decide) (Nat.le_refl _) (Nat.le_refl _) (fun u9 a9 ha9 => ?_)
  subst ha9
  refine j_astore_n C (lo1 := [(3, .ref a1), (0, .ref h), (1, .int (nI i)), (2, .int (nI j))]) rfl (by decide) rfl dX9_conjugator_5 ?_
  refine j_aload_n C rfl 1 rfl dX9_conjugator_6 ?_
  refine j_iload_n C rfl 3 rfl dX9_conjugator_7 ?_
  refine j_resr (k1 := 0) (n1 := 0) C (j_runV C (c_X9_wordAt (i := j) (a1 := a2) (by omega) (by omega) (by assumption)) gX9_conjugator_X9_wordAt rfl hdV_X9_wordAt ⟨Nat.le_of_ble_eq_true rfl, Nat.le_of_ble_eq_true rfl⟩ ⟨Nat.le_of_ble_eq_true rfl, Nat.le_of_ble_eq_true rfl⟩ 4 rfl rfl rfl [4, 5] rfl (by decide) rfl (Nat.le_of_ble_eq_true rfl) dX9_conjugator_8) (wr := [(a1, .inr (9, [.ref b1, .int (nI xs.length)])), (b1, .inl (cy 0, 60, .inl f1)), (a2, .inr (9, [.ref b2, .int (nI ys.length)])), (b2, .inl (cy 0, 60, .inl f2))]) [0, 1, 2, 3] rfl (by decide) (by decide) (Nat.le_refl _) (Nat.le_refl _) (fun u9 a9 ha9 => ?_)
  subst ha9
  refine j_astore C (lo1 := [(4, .ref a2), (3, .ref a1), (0, .ref h), (1, .int (nI i)), (2, .int (nI j))]) (by decide) rfl dX9_conjugator_11 ?_
  refine j_aload C 0 rfl dX9_conjugator_13 ?_
  refine j_aload_n C rfl 1 rfl dX9_conjugator_15 ?_
  refine j_resi (k1 := 0) (n1 := 0) C (j_runV C (c_X7_turnOfCoreN (by decide : 60 < 2 ^ 20) (by decide : 60 < 2 ^ 20) he2 he1 hne h26 h16 hf2 hf1 hy60 hx60) gX9_conjugator_X7_turnOfCore rfl hdV_X7_turnOfCore ⟨Nat.le_of_ble_eq_true rfl, Nat.le_of_ble_eq_true rfl⟩ ⟨Nat.le_of_ble_eq_true rfl, Nat.le_of_ble_eq_true rfl⟩ 2 rfl rfl rfl [2, 3, 0, 1] rfl (by decide) rfl (Nat.le_of_ble_eq_true rfl) dX9_conjugator_16) (wr := [(h, .inr (11, [.ref ty, .int tn, .ref aw, .int (nI wn), .ref (ad 4), .ref (ad 5), .ref (ad 6), .int (nI 0), .ref (ad 8), .int (nI 0), .ref dr, .ref se, .ref (ad 12), .ref (ad 13), .ref (ad 14), .ref (ad 15), .ref (ad 16), .ref (ad 17)])), (aw, .inl (cy 4, 24, .inr (.inr (.inr (.inr g)))))]) [4, 5] rfl (by decide) (by decide) (Nat.le_refl _) (Nat.le_refl _) (fun v u hv => ?_)
  subst hv
  refine j_istore C (lo1 := [(5, .int (-1)), (4, .ref a2), (3, .ref a1), (0, .ref h), (1, .int (nI i)), (2, .int (nI j))]) (by decide) rfl dX9_conjugator_19 ?_
  refine j_iload C 0 rfl dX9_conjugator_21 ?_
  refine j_iconst C (v := (-1)) (by decide +kernel) dX9_conjugator_23 ?_
  refine j_icmp_ne C (P := True) (by decide) (tgt := 37) (by decide) dX9_conjugator_24 (fun ht => absurd ht (fun z => z trivial)) (fun hq => ?_)
  exact j_throwN C hl9 (text := "there is none") (ik := 124) (is9 := 171) (mc := 1) (ms := 6) (by decide +kernel) (by decide +kernel) (by decide +kernel) (by decide +kernel) (by decide +kernel) (by decide +kernel) dX9_conjugator_27 dX9_conjugator_30 dX9_conjugator_31 dX9_conjugator_33 dX9_conjugator_36 htb (Nat.le_of_ble_eq_true rfl) (Nat.le_of_ble_eq_true rfl) (Nat.le_of_ble_eq_true rfl) (Nat.le_of_ble_eq_true rfl) [0, 1, 4, 5, 2, 3] rfl (by decide) (Nat.le_of_ble_eq_true rfl) (Nat.le_of_ble_eq_true rfl)
