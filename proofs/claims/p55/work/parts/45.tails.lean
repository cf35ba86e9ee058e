section FZT
variable {p : Program} {l : Launch} {e : Env} {R : Room} {s : State} {m : MethodId} {args : Array Value} {below : List Frame} {meth : Method} {c : Code} {Q : State → Prop} {G : va_G} {cy : Nat → ClassId} {A : Nat → Prop} {nL : Nat} {cc : ByteArray} {Ts : List Cond} {own : String} {ret : Option FieldType}
variable {ws : va_W} {k n pc : Nat} {lo : List (Nat × Value)} {st : List Value}
theorem fz_Diff {A : Nat → Prop} {w : va_W} : va_D A w ↔ (w.map (fun q => q.1)).Nodup ∧ ∀ q ∈ w, A q.1 := by
  constructor
  · intro h
    refine ⟨?_, fun q hq => ?_⟩
    · rw [List.nodup_iff_pairwise_ne, List.pairwise_iff_getElem]
      intro i j hi hj hij z
      simp only [List.getElem_map] at z
      rw [List.length_map] at hi hj
      have z2 := h.1 i j _ _ (List.getElem?_eq_getElem hi) (List.getElem?_eq_getElem hj) z
      omega
    · obtain ⟨i, hi⟩ := List.getElem?_of_mem hq
      exact h.2 i q hi
  · rintro ⟨h1, h2⟩
    refine ⟨fun i j x y hi hj hxy => ?_, fun i q hq => h2 q (List.mem_of_getElem? hq)⟩
    rw [List.nodup_iff_pairwise_ne, List.pairwise_iff_getElem] at h1
    obtain ⟨li, ei⟩ := List.getElem?_eq_some_iff.mp hi
    obtain ⟨lj, ej⟩ := List.getElem?_eq_some_iff.mp hj
    rcases Nat.lt_trichotomy i j with z | z | z
    · exact (h1 i j (by rw [List.length_map]; exact li) (by rw [List.length_map]; exact lj) z (by simp only [List.getElem_map]; rw [ei, ej]; exact hxy)).elim
    · exact z
    · exact (h1 j i (by rw [List.length_map]; exact lj) (by rw [List.length_map]; exact li) z (by simp only [List.getElem_map]; rw [ei, ej]; exact hxy.symm)).elim
theorem fz_Dperm {w1 w2 : va_W} {A : Nat → Prop} (hp : w1.Perm w2) (h : va_D A w1) : va_D A w2 := by
  rw [fz_Diff] at h ⊢
  exact ⟨(hp.map _).nodup_iff.mp h.1, fun q hq => h.2 q (hp.mem_iff.mpr hq)⟩
theorem fz_Dsub {w1 w2 : va_W} {A : Nat → Prop} (hp : w2.Sublist w1) (h : va_D A w1) : va_D A w2 := by
  rw [fz_Diff] at h ⊢
  exact ⟨(hp.map _).nodup h.1, fun q hq => h.2 q (hp.subset hq)⟩
theorem fz_Pmem {w1 w2 : va_W} {H : Heap} (h : ∀ q ∈ w2, q ∈ w1) (hP : va_P G vwCl w1 H) : va_P G vwCl w2 H := fun i q hq => by
  obtain ⟨j, hj⟩ := List.getElem?_of_mem (h q (List.mem_of_getElem? hq))
  exact hP j q hj
/-- the cells in another order -/
theorem j_perm {ws1 : va_W} (h : ws.Perm ws1) (kk : J p l e R s m args below meth c Q G A nL ws1 k n pc lo st) : J p l e R s m args below meth c Q G A nL ws k n pc lo st := fun H locs ls hP hD hS hl => kk H locs ls (fz_Pmem (fun q hq => h.mem_iff.mpr hq) hP) (fz_Dperm h hD) hS hl
theorem j_subl {ws1 : va_W} (h : ws1.Sublist ws) (kk : J p l e R s m args below meth c Q G A nL ws1 k n pc lo st) : J p l e R s m args below meth c Q G A nL ws k n pc lo st := fun H locs ls hP hD hS hl => kk H locs ls (fz_Pmem (fun q hq => h.subset hq) hP) (fz_Dsub h hD) hS hl
theorem j_drop {a tl b : va_W} (kk : J p l e R s m args below meth c Q G A nL (a ++ tl) k n pc lo st) : J p l e R s m args below meth c Q G A nL (a ++ b ++ tl) k n pc lo st := j_subl (by rw [List.append_assoc]; exact List.Sublist.append_left (List.sublist_append_right b tl) a) kk
theorem j_vretA (C : fz_C p c s m args nL cc Ts own meth none G cy A) {S : Type} {po : S → Prop} {w1 : S → va_W} {mc ms : Nat} (u : S) (hp : po u) (hs : ws = w1 u) (hk : k ≤ mc) (hm : n ≤ ms) (d : decode cc pc = .ok (.return_, 1)) : J p l e R s m args below meth c (MQ below (va_Qv po (fz_B G w1 A) A) args s mc ms A) G A nL ws k n pc lo [] := by
  subst hs
  exact fun H locs ls hP hD hS hl => W.widen hk hm (W.vret C.1.1 C.1.2.1 C.2.1 (fun t ht hW => ⟨⟨u, rfl, hp, by rw [ht]; exact hP, hD⟩, hS.F ht⟩) hS.2.2 d C.2.2.1)
theorem j_swap {a tl b : va_W} (kk : J p l e R s m args below meth c Q G A nL (a ++ b ++ tl) k n pc lo st) : J p l e R s m args below meth c Q G A nL (a ++ tl ++ b) k n pc lo st := j_perm (by rw [List.append_assoc, List.append_assoc]; exact List.Perm.append_left a List.perm_append_comm) kk
/-- behind a call of a method that answers nothing, with cells that it doesn't take and nobody counts -/
theorem j_resvt (C : fz_C p c s m args nL cc Ts own meth ret G cy A) {S : Type} {po : S → Prop} {w1 : S → va_W} {wc wr tl : va_W} {isC : List Nat} {mc ms k1 n1 : Nat} {st0 : List Value} {av : Array Value} (h : JR p l e R s m args below meth c G A nL (ws ++ tl) wc isC k n mc ms pc lo st st0 (fun sz => va_Qv po (fz_B G w1 (va_A wc sz)) (va_A wc sz) av)) (isR : List Nat) (hR : isR.map (fun i => ws[i]?) = wr.map some) (hn : va_nd isR = true) (hdis : ∀ i ∈ isR, i ∉ isC) {L9 : Nat} (hL9 : ws.length = L9) (hC9 : ∀ i ∈ isC, i < L9) (hk1 : k + mc ≤ k1) (hn1 : n + ms ≤ n1)
    (kk : ∀ (u : S), po u → J p l e R s m args below meth c Q G A nL (wr ++ w1 u ++ tl) k1 n1 (pc + 3) lo st) : J p l e R s m args below meth c Q G A nL (ws ++ tl) k n pc lo st0 := by
  have hC : ∀ i ∈ isC, i < ws.length := fun i hi => by rw [hL9]; exact hC9 i hi
  have hR9 : (isR ++ (List.range tl.length).map (fun i => ws.length + i)).map (fun i => (ws ++ tl)[i]?) = (wr ++ tl).map some := by
    rw [List.map_append, List.map_append]
    congr 1
    · rw [← hR]
      refine List.map_congr_left fun i hi => ?_
      have h1 : (ws[i]?).isSome = true := by
        have h2 : ws[i]? ∈ wr.map some := by rw [← hR]; exact List.mem_map_of_mem hi
        obtain ⟨x, -, hx⟩ := List.mem_map.mp h2
        rw [← hx]; rfl
      have h3 : i < ws.length := by
        rcases Nat.lt_or_ge i ws.length with z | z
        · exact z
        · rw [List.getElem?_eq_none z] at h1; cases h1
      exact List.getElem?_append_left h3
    · refine List.ext_getElem? fun i => ?_
      rw [List.map_map, List.getElem?_map, List.getElem?_map]
      rcases Nat.lt_or_ge i tl.length with z | z
      · rw [List.getElem?_range z]
        simp only [Option.map_some, Function.comp_apply]
        rw [List.getElem?_append_right (by omega), Nat.add_sub_cancel_left, List.getElem?_eq_getElem z]; rfl
      · rw [List.getElem?_eq_none (by simpa using z), List.getElem?_eq_none z]; rfl
  have hdis9 : ∀ i ∈ isR ++ (List.range tl.length).map (fun i => ws.length + i), i ∉ isC := by
    intro i hi
    rcases List.mem_append.mp hi with z | z
    · exact hdis i z
    · obtain ⟨j, -, rfl⟩ := List.mem_map.mp z
      exact fun q => by have := hC _ q; omega
  intro H locs ls hP hD hS hl
  have hF := va_free (wc := wc) hD hS C.2.2.2.2.1 isC h.1
  refine va_callv (h.2 H locs ls hP hD hS hl) hS (fun q _ z => hF q z) hF (fun u t H1 locs1 ht hvm hp hB hz hk hS1 => ?_)
  obtain ⟨hP1, hD1⟩ := hB
  rw [ht] at hP1
  have hnd : va_nd (isR ++ (List.range tl.length).map (fun i => ws.length + i)) = true := by
    have key : ∀ l : List Nat, l.Nodup → va_nd l = true := by
      intro l
      induction l with
      | nil => intro _; rfl
      | cons a l ih => intro h; rw [List.nodup_cons] at h; simp only [va_nd, Bool.and_eq_true, decide_eq_true_eq]; exact ⟨h.1, ih h.2⟩
    have key2 : ∀ l : List Nat, va_nd l = true → l.Nodup := by
      intro l
      induction l with
      | nil => intro _; exact List.nodup_nil
      | cons a l ih => intro h; simp only [va_nd, Bool.and_eq_true, decide_eq_true_eq] at h; exact List.nodup_cons.mpr ⟨h.1, ih h.2⟩
    refine key _ (List.nodup_append.mpr ⟨key2 _ hn, ?_, ?_⟩)
    · rw [List.nodup_iff_pairwise_ne, List.pairwise_map]
      exact List.Pairwise.imp (fun {a b} h => by omega) (List.nodup_iff_pairwise_ne.mp List.nodup_range)
    · intro a ha b hb hab
      obtain ⟨j, -, rfl⟩ := List.mem_map.mp hb
      have h2 : ws[a]? ∈ wr.map some := by rw [← hR]; exact List.mem_map_of_mem ha
      obtain ⟨x, -, hx⟩ := List.mem_map.mp h2
      have h3 := (List.getElem?_eq_some_iff.mp hx.symm).1
      omega
  obtain ⟨a1, a2⟩ := fz_behind C.2.2.2.2.1 h.1 hP hD hS _ hR9 hnd hdis9 hk hP1 hD1
  have hperm : (wr ++ tl ++ w1 u).Perm (wr ++ w1 u ++ tl) := by rw [List.append_assoc, List.append_assoc]; exact List.Perm.append_left wr List.perm_append_comm
  exact W.widen hk1 hn1 (kk u hp H1 locs1 ls (fz_Pmem (fun q hq => hperm.mem_iff.mpr hq) a1) (fz_Dperm hperm a2) hS1 hl)
/-! the law's literal, and what the JDK reads of it -/
theorem j_gcs (C : fz_C p c s m args nL cc Ts own meth ret G cy A) {idx : Nat} (hw : Cond.fieldLink own idx "java/lang/String" "COMPACT_STRINGS" "Z" ∈ Ts) (d : decode cc pc = .ok (.getstatic idx, 3)) (kk : J p l e R s m args below meth c Q G A nL ws k n (pc + 3) lo (.int 1 :: st)) : J p l e R s m args below meth c Q G A nL ws k n pc lo st :=
  fun H locs ls hP hD hS hl => va_gets C.1.1 C.1.2.1 C.2.2.2.2.2.2.2.2.2.1.1 hS C.1.2.2.2.1 (C.1.2.2.2.2 _ hw) (fun _ h => h) d (kk H locs ls hP hD hS hl)
theorem j_gsf (C : fz_C p c s m args nL cc Ts own meth ret G cy A) {idx : Nat} (hw : Cond.fieldLink own idx "jdk/internal/util/Preconditions" "SIOOBE_FORMATTER" "Ljava/util/function/BiFunction;" ∈ Ts) (d : decode cc pc = .ok (.getstatic idx, 3)) (k0 : J p l e R s m args below meth c Q G A nL ws k n (pc + 3) lo (.null :: st)) (k1 : ∀ t : Nat, J p l e R s m args below meth c Q G A nL ws k n (pc + 3) lo (.ref t :: st)) : J p l e R s m args below meth c Q G A nL ws k n pc lo st := by
  intro H locs ls hP hD hS hl
  rcases C.2.2.2.2.2.2.2.2.2.1.2 with h | ⟨t, h⟩
  · exact va_gets C.1.1 C.1.2.1 h hS C.1.2.2.2.1 (C.1.2.2.2.2 _ hw) (fun _ h => h) d (k0 H locs ls hP hD hS hl)
  · exact va_gets C.1.1 C.1.2.1 h hS C.1.2.2.2.1 (C.1.2.2.2.2 _ hw) (fun _ h => h) d (k1 t H locs ls hP hD hS hl)
theorem j_lits (C : fz_C p c s m args nL cc Ts own meth ret G cy A) (ho : own = RL) (d : decode cc pc = .ok (.ldc 83, 2)) (kk : J p l e R s m args below meth c Q G A nL ws k n (pc + 2) lo (.ref (cy 7) :: st)) : J p l e R s m args below meth c Q G A nL ws k n pc lo st := by
  intro H locs ls hP hD hS hl
  have h := C.2.2.2.2.2.2.2.2.1.2
  rw [← ho] at h
  exact va_ldcS C.1.1 C.1.2.1 C.1.2.2.2.1 h d (kk H locs ls hP hD hS hl)
theorem j_litc (C : fz_C p c s m args nL cc Ts own meth ret G cy A) {idx : Nat} (hw : Cond.fieldLink own idx "java/lang/String" "coder" "B" ∈ Ts) (d : decode cc pc = .ok (.getfield idx, 3)) (kk : J p l e R s m args below meth c Q G A nL ws k n (pc + 3) lo (.int 0 :: st)) : J p l e R s m args below meth c Q G A nL ws k n pc lo (.ref (cy 7) :: st) :=
  fun H locs ls hP hD hS hl => vk_getf C.1.1 C.1.2.1 (C.2.2.2.2.2.2.2.2.1.1.1 0 (by decide)).2.1 hS C.1.2.2.2.1 (C.1.2.2.2.2 _ hw) (fun _ h => h) d (kk H locs ls hP hD hS hl)
theorem j_litv (C : fz_C p c s m args nL cc Ts own meth ret G cy A) {idx : Nat} (hw : Cond.fieldLink own idx "java/lang/String" "value" "[B" ∈ Ts) (d : decode cc pc = .ok (.getfield idx, 3)) (kk : J p l e R s m args below meth c Q G A nL ws k n (pc + 3) lo (.ref (cy 8) :: st)) : J p l e R s m args below meth c Q G A nL ws k n pc lo (.ref (cy 7) :: st) :=
  fun H locs ls hP hD hS hl => vk_getf C.1.1 C.1.2.1 (C.2.2.2.2.2.2.2.2.1.1.1 0 (by decide)).2.2.1 hS C.1.2.2.2.1 (C.1.2.2.2.2 _ hw) (fun _ h => h) d (kk H locs ls hP hD hS hl)
theorem j_litn (C : fz_C p c s m args nL cc Ts own meth ret G cy A) (d : decode cc pc = .ok (.arraylength, 1)) (kk : J p l e R s m args below meth c Q G A nL ws k n (pc + 1) lo (.int (nI 6) :: st)) : J p l e R s m args below meth c Q G A nL ws k n pc lo (.ref (cy 8) :: st) :=
  fun H locs ls hP hD hS hl => va_tlen C.1.1 C.1.2.1 (C.2.2.2.2.2.2.2.2.1.1.1 0 (by decide)).2.2.2 hS rfl d (kk H locs ls hP hD hS hl)
theorem j_litb (C : fz_C p c s m args nL cc Ts own meth ret G cy A) {j : Nat} (hj : j < 6) {v : Int32} (hv : [97, 65, 98, 66, 99, 67].getD j (0 : Int32) = v) (d : decode cc pc = .ok (.baload, 1)) (kk : J p l e R s m args below meth c Q G A nL ws k n (pc + 1) lo (.int v :: st)) : J p l e R s m args below meth c Q G A nL ws k n pc lo (.int (nI j) :: .ref (cy 8) :: st) :=
  fun H locs ls hP hD hS hl => va_tb C.1.1 C.1.2.1 (C.2.2.2.2.2.2.2.2.1.1.1 0 (by decide)).2.2.2 hS (fz_vin hj (by show 6 < 2 ^ 31; decide)) (by rw [fz_cl hj (by decide)]; exact congrArg Value.int hv) d (kk H locs ls hP hD hS hl)
/-- a call of a method of the literal -/
theorem j_runVs (C : fz_C p c s m args nL cc Ts own meth ret G cy A) {y : MethodName} {wy ws' : List Cond} {idx maxL fr mc ms lc : Nat} {bytes : ByteArray} {rt : Option FieldType} {As : List Value} {wc : va_W} {Qc : Nat → Array Value → State → Outcome → State → Prop} (M : ∀ sz, Met l y wy (fz_rm fr mc ms lc) (fz_Pc G cy (.ref (cy 7) :: As) wc sz) (Qc sz) mc ms (va_A wc sz)) (g : GoodIn Ts (wsV own idx "java/lang/String" y wy)) (hw : wy = Cond.code y bytes maxL rt :: ws')
    (hd : y.cls = "java/lang/String" ∧ y.cls ≠ "java/lang/invoke/MethodHandle" ∧ y.cls ≠ "java/lang/invoke/VarHandle" ∧ (parseMethodDescriptor y.desc).map (fun d => d.parameters.length) = some As.length) (hR : fr + 1 ≤ R.frames ∧ 8 + (maxL + 11) + lc ≤ R.locals) (hm : k + mc ≤ R.cells ∧ n + ms ≤ R.slots)
    (isC : List Nat) (hC : isC.map (fun i => ws[i]?) = wc.map some) (hn : va_nd isC = true) {st0 : List Value} (hst : st0 = As.reverse ++ .ref (cy 7) :: st) (hsm : (st.map fun v => v.category).sum ≤ 8) (d : decode cc pc = .ok (.invokevirtual idx, 3)) :
    JR p l e R s m args below meth c G A nL ws wc isC k n mc ms pc lo st st0 (fun sz => Qc sz (Value.ref (cy 7) :: As).toArray) :=
  ⟨hC, fun H locs ls hP hD hS hl => va_runV (As := As) (rest := st) C.1 (M H.size) (cwV As.length C.1.2.2.2.2 g hw rfl rfl hd hR) ⟨fz_blind, vk_recv (i := 0) C.2.2.2.2.2.2.2.2.1.1 (by decide) hS, fun U hU hW => fz_pre C isC hC hn hP hD hS U hU hW⟩ rfl rfl hl.1 hst (lv_room hsm) d hm⟩
/-! the script -/
theorem j_slen (C : fz_C p c s m args nL cc Ts own meth ret G cy A) (d : decode cc pc = .ok (.arraylength, 1)) (kk : J p l e R s m args below meth c Q G A nL ws k n (pc + 1) lo (.int (nI (cy 10)) :: st)) : J p l e R s m args below meth c Q G A nL ws k n pc lo (.ref (cy 9) :: st) :=
  fun H locs ls hP hD hS hl => va_slen C.1.1 C.1.2.1 C.2.2.2.2.2.2.2.2.2.2.2.2.2.2.1 C.2.2.2.2.2.2.2.2.2.2.2.2.2.2.2.1 C.2.2.2.2.2.2.2.2.2.2.2.2.2.2.2.2 hS d (kk H locs ls hP hD hS hl)
theorem j_sld (C : fz_C p c s m args nL cc Ts own meth ret G cy A) {j : Nat} (hj : j < cy 10) (hL : cy 10 < 2 ^ 31) (d : decode cc pc = .ok (.iaload, 1)) (kk : ∀ x : Int32, J p l e R s m args below meth c Q G A nL ws k n (pc + 1) lo (.int x :: st)) : J p l e R s m args below meth c Q G A nL ws k n pc lo (.int (nI j) :: .ref (cy 9) :: st) :=
  fun H locs ls hP hD hS hl => va_sld C.1.1 C.1.2.1 C.2.2.2.2.2.2.2.2.2.2.2.2.2.2.1 C.2.2.2.2.2.2.2.2.2.2.2.2.2.2.2.1 C.2.2.2.2.2.2.2.2.2.2.2.2.2.2.2.2 hS (fz_vin hj hL) d (kk _ H locs ls hP hD hS hl)
end FZT
