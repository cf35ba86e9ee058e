/-! numbers and letters of the machine; 'nx_xor', 'fa_byte_small' are the kit's rows, pasted -/
theorem nx_xor (a b : Nat) : nI a ^^^ nI b = nI (a ^^^ b) := by
  apply Int32.toBitVec_inj.1
  show BitVec.ofNat 32 a ^^^ BitVec.ofNat 32 b = BitVec.ofNat 32 (a ^^^ b)
  apply BitVec.eq_of_getLsbD_eq
  intro i hi
  simp [hi]
theorem fa_byte_small {n : Nat} (h : n < 128) : (nI n).toInt8.toInt32 = nI n := by
  have : ∀ j : Fin 128, (nI j.val).toInt8.toInt32 = nI j.val := by decide +kernel
  exact this ⟨n, h⟩
theorem fx_add (a b : Nat) : nI a + nI b = nI (a + b) := nI_add a b
theorem fx_inc (a z : Nat) : nI a + Int32.ofInt (z : Int) = nI (a + z) := by rw [← nI_add]; rfl
theorem fx_fv (a : Nat) : nI a ^^^ nI 1 = nI (fv a) := nx_xor a 1
theorem fx_byte {n : Nat} (h : n < 128) : (nI n).toInt8.toInt32 = nI n := fa_byte_small h
theorem fx_nar {n : Nat} (h : n < 128) : vp_nar .byte (nI n) = nI n := by rw [vp_nar_byte]; exact fa_byte_small h
theorem fx_char {n : Nat} (h : n < 256) : ((nI n).toUInt32 % 65536).toInt32 = nI n := by
  have : ∀ j : Fin 256, ((nI j.val).toUInt32 % 65536).toInt32 = nI j.val := by decide +kernel
  exact this ⟨n, h⟩
theorem fx_z : nI 0 = 0 := rfl
theorem fx_le0 {n : Nat} (h : n < 2 ^ 31) : nI n ≤ 0 ↔ n = 0 := by rw [← fx_z, nI_leI h (by omega)]; omega
theorem fx_lt0 {n : Nat} (h : n < 2 ^ 31) : nI n < 0 ↔ False := by rw [← fx_z, nI_ltI h (by omega)]; exact ⟨fun h => absurd h (Nat.not_lt_zero _), False.elim⟩
theorem fx_ge0 {n : Nat} (h : n < 2 ^ 31) : 0 ≤ nI n ↔ True := by rw [← fx_z, nI_leI (by omega) h]; exact ⟨fun _ => trivial, fun _ => Nat.zero_le _⟩
theorem fx_gt0 {n : Nat} (h : n < 2 ^ 31) : 0 < nI n ↔ 0 < n := by rw [← fx_z, nI_ltI (by omega) h]
theorem fx_eq0 {n : Nat} (h : n < 2 ^ 31) : nI n = 0 ↔ n = 0 := by rw [← fx_z, nI_eq h (by omega)]
theorem fx_m1 (x : Int32) : x - nI 1 = x - 1 := rfl
theorem fx_dec (j : Nat) : nI j + Int32.ofInt (-1) = nI j - 1 := by
  rw [Int32.sub_eq_add_neg]; rfl
/-- going down: d places are left -/
theorem fx_dn {d : Nat} (h : d < 2 ^ 31) : nI d - 1 < 0 ↔ d = 0 := by
  cases d with
  | zero => exact ⟨fun _ => rfl, fun _ => by decide⟩
  | succ d =>
    rw [nI_pred]
    rw [fx_lt0 (by omega)]
    exact ⟨False.elim, fun h => by cases h⟩
/-- the letters that a row's array holds -/
def Hd (f : Nat → Int32) (xs : List Nat) : Prop := ∀ i, i < xs.length → f i = nI (gd xs i)
/-- letters alone -/
def L6 (xs : List Nat) : Prop := ∀ i, i < xs.length → gd xs i < 6
theorem L6_mem {xs : List Nat} : L6 xs ↔ ∀ a ∈ xs, a < 6 := by
  constructor
  · intro h a ha
    obtain ⟨i, hi⟩ := List.getElem?_of_mem ha
    have hl : i < xs.length := (List.getElem?_eq_some_iff.mp hi).1
    have := h i hl
    rwa [gd_some hi] at this
  · intro h i hi
    exact h _ (List.mem_of_getElem? (gd_at hi))
theorem psh_mem {xs : List Nat} {a x : Nat} (h : x ∈ psh xs a) : x ∈ xs ∨ x = a := by
  rcases fm_snoc xs with e | ⟨t, b, e⟩
  · subst e; rw [psh_0] at h; simp at h; exact Or.inr h
  · subst e
    by_cases hb : b = fv a
    · rw [psh_t hb] at h; exact Or.inl (by simp [h])
    · rw [psh_f' hb] at h; simp at h ⊢; rcases h with h | h | h <;> simp [h]
theorem L6_psh {xs : List Nat} {a : Nat} (h : L6 xs) (ha : a < 6) : L6 (psh xs a) := L6_mem.mpr fun x hx => by
  rcases psh_mem hx with q | q
  · exact L6_mem.mp h x q
  · rw [q]; exact ha
theorem L6_act : ∀ (ys : List Nat) {r : List Nat}, L6 r → L6 ys → L6 (act r ys)
  | [], _, h, _ => h
  | y :: t, _, h, hy => L6_act t (L6_psh h (L6_mem.mp hy y (by simp))) (L6_mem.mpr fun a ha => L6_mem.mp hy a (by simp [ha]))
theorem L6_nil : L6 [] := fun _ h => absurd h (Nat.not_lt_zero _)
theorem L6_app {xs ys : List Nat} (h : L6 xs) (h2 : L6 ys) : L6 (xs ++ ys) := L6_mem.mpr fun a ha => (List.mem_append.mp ha).elim (L6_mem.mp h a) (L6_mem.mp h2 a)
theorem L6_iv {xs : List Nat} (h : L6 xs) : L6 (iv xs) := L6_mem.mpr fun a ha => by
  simp only [iv, List.mem_reverse, List.mem_map] at ha
  obtain ⟨b, hb, rfl⟩ := ha
  exact fv_lt b (L6_mem.mp h b hb)
theorem L6_red {xs : List Nat} (h : L6 xs) : L6 (red xs) := L6_act xs L6_nil h
theorem L6_seg {xs : List Nat} {a n : Nat} (h : L6 xs) (hn : a + n ≤ xs.length) : L6 (seg (gd xs) a n) := L6_mem.mpr fun x hx => by
  simp only [seg, List.mem_map, List.mem_range] at hx
  obtain ⟨i, hi, rfl⟩ := hx
  exact h _ (by omega)
/-- a letter added: two cases -/
theorem psh_last {xs : List Nat} {a : Nat} (h0 : 0 < xs.length) (h : gd xs (xs.length - 1) = fv a) : (psh xs a).length = xs.length - 1 ∧ ∀ f, Hd f xs → Hd f (psh xs a) := by
  rcases fm_snoc xs with e | ⟨t, b, e⟩
  · subst e; simp at h0
  · subst e
    have hb : b = fv a := by
      rw [← h, List.length_append, List.length_singleton, Nat.add_sub_cancel, gd_app2 (Nat.le_refl _), Nat.sub_self]; rfl
    rw [psh_t hb]
    refine ⟨by simp, fun f hf i hi => ?_⟩
    rw [hf i (by simp; omega), gd_app1 hi]
theorem psh_other {xs : List Nat} {a : Nat} (h : 0 < xs.length → gd xs (xs.length - 1) ≠ fv a) : psh xs a = xs ++ [a] := by
  rcases fm_snoc xs with e | ⟨t, b, e⟩
  · subst e; exact psh_0 a
  · subst e
    refine psh_f' fun hb => h (by simp) ?_
    rw [List.length_append, List.length_singleton, Nat.add_sub_cancel, gd_app2 (Nat.le_refl _), Nat.sub_self]
    exact hb
theorem Hd_put {xs : List Nat} {a : Nat} {f : Nat → Int32} (h : Hd f xs) : Hd (upd f xs.length (nI a)) (xs ++ [a]) := by
  intro i hi
  rw [List.length_append, List.length_singleton] at hi
  rcases Nat.lt_or_ge i xs.length with q | q
  · rw [pk_un (by omega), h i q, gd_app1 q]
  · have : i = xs.length := by omega
    subst this
    rw [pk_us, gd_app2 (Nat.le_refl _), Nat.sub_self]; rfl
theorem Hd_nil (f : Nat → Int32) : Hd f [] := fun _ h => absurd h (Nat.not_lt_zero _)
section FZK
variable {p : Program} {l : Launch} {e : Env} {R : Room} {s : State} {m : MethodId} {args : Array Value} {below : List Frame} {meth : Method} {c : Code} {Q : State → Prop} {G : va_G} {A : Nat → Prop} {nL : Nat}
variable {ws : va_W} {k n pc : Nat} {lo : List (Nat × Value)} {st : List Value}
theorem j_leq {lo1 : List (Nat × Value)} (h : lo = lo1) (kk : J p l e R s m args below meth c Q G A nL ws k n pc lo1 st) : J p l e R s m args below meth c Q G A nL ws k n pc lo st := by rw [h]; exact kk
theorem j_seq {st1 : List Value} (h : st = st1) (kk : J p l e R s m args below meth c Q G A nL ws k n pc lo st1) : J p l e R s m args below meth c Q G A nL ws k n pc lo st := by rw [h]; exact kk
theorem j_weq {ws1 : va_W} (h : ws = ws1) (kk : J p l e R s m args below meth c Q G A nL ws1 k n pc lo st) : J p l e R s m args below meth c Q G A nL ws k n pc lo st := by rw [h]; exact kk
end FZK
