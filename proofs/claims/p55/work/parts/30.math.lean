/-! Words as lists of 0 .. 5: what cancels, what conjugates: no machine in this part. -/
def fv (a : Nat) : Nat := a ^^^ 1
theorem fv_fv (a : Nat) : fv (fv a) = a := by unfold fv; rw [Nat.xor_assoc, Nat.xor_self, Nat.xor_zero]
theorem fv_ne (a : Nat) : a ≠ fv a := by
  intro h
  have h1 : a ^^^ a = a ^^^ (a ^^^ 1) := congrArg (fun z => a ^^^ z) h
  rw [← Nat.xor_assoc, Nat.xor_self, Nat.zero_xor] at h1
  cases h1
theorem fv_inj {a b : Nat} (h : fv a = fv b) : a = b := by rw [← fv_fv a, h, fv_fv]
theorem fv_lt : ∀ a, a < 6 → fv a < 6 := by decide +kernel
theorem fv_eq {a b : Nat} : a = fv b ↔ fv a = b := ⟨fun h => by rw [h, fv_fv], fun h => by rw [← h, fv_fv]⟩
/-- nothing cancels -/
def Rd : List Nat → Prop
  | [] => True
  | [_] => True
  | a :: b :: t => a ≠ fv b ∧ Rd (b :: t)
theorem Rd_app : ∀ (xs ys : List Nat), Rd (xs ++ ys) ↔ Rd xs ∧ Rd ys ∧ ∀ a b, xs.getLast? = some a → ys.head? = some b → a ≠ fv b
  | [], ys => by simp [Rd]
  | [x], [] => by simp [Rd]
  | [x], y :: t => by
    simp only [List.cons_append, List.nil_append, Rd, List.getLast?_singleton, List.head?_cons, Option.some.injEq]
    constructor
    · rintro ⟨h1, h2⟩
      exact ⟨trivial, h2, fun a b ha hb => by rw [← ha, ← hb]; exact h1⟩
    · rintro ⟨-, h2, h3⟩
      exact ⟨h3 x y rfl rfl, h2⟩
  | x :: x' :: t, ys => by
    have ih := Rd_app (x' :: t) ys
    simp only [List.cons_append] at ih ⊢
    simp only [Rd, List.getLast?_cons_cons]
    rw [ih, and_assoc]
theorem Rd_tail {x : Nat} : ∀ {t : List Nat}, Rd (x :: t) → Rd t
  | [], _ => trivial
  | _ :: _, h => h.2
theorem fm_snoc : ∀ l : List Nat, l = [] ∨ ∃ t a, l = t ++ [a]
  | [] => Or.inl rfl
  | x :: l => by
    rcases fm_snoc l with h | ⟨t, a, h⟩
    · exact Or.inr ⟨[], x, by rw [h]; rfl⟩
    · exact Or.inr ⟨x :: t, a, by rw [h]; rfl⟩
def iv (xs : List Nat) : List Nat := (xs.map fv).reverse
theorem iv_app (xs ys : List Nat) : iv (xs ++ ys) = iv ys ++ iv xs := by simp [iv]
theorem iv_iv (xs : List Nat) : iv (iv xs) = xs := by
  have h : (fv ∘ fv) = id := funext fv_fv
  simp [iv, h]
theorem iv_len (xs : List Nat) : (iv xs).length = xs.length := by simp [iv]
theorem iv_cons (x : Nat) (t : List Nat) : iv (x :: t) = iv t ++ [fv x] := by simp [iv]
theorem iv_nil : iv [] = [] := rfl
theorem iv_last (xs : List Nat) : (iv xs).getLast? = xs.head?.map fv := by
  cases xs with
  | nil => rfl
  | cons x t => rw [iv_cons]; simp
theorem iv_head (xs : List Nat) : (iv xs).head? = xs.getLast?.map fv := by
  rcases fm_snoc xs with h | ⟨t, a, h⟩
  · subst h; rfl
  · subst h; rw [iv_app]; simp [iv]
theorem Rd_iv : ∀ {xs : List Nat}, Rd xs → Rd (iv xs)
  | [], _ => trivial
  | x :: t, h => by
    rw [iv_cons]
    refine (Rd_app _ _).mpr ⟨Rd_iv (Rd_tail h), trivial, fun a b ha hb => ?_⟩
    cases t with
    | nil => cases ha
    | cons y t =>
      rw [iv_last] at ha
      cases ha
      cases hb
      intro z
      rw [fv_fv] at z
      exact h.1 z.symm
/-- a letter added behind -/
def psh (xs : List Nat) (a : Nat) : List Nat := if xs.getLast? = some (fv a) then xs.dropLast else xs ++ [a]
theorem psh_t {t : List Nat} {a b : Nat} (h : b = fv a) : psh (t ++ [b]) a = t := by unfold psh; rw [h]; simp
theorem psh_f {xs : List Nat} {a : Nat} (h : xs.getLast? ≠ some (fv a)) : psh xs a = xs ++ [a] := by unfold psh; rw [if_neg h]
theorem psh_f' {t : List Nat} {a b : Nat} (h : b ≠ fv a) : psh (t ++ [b]) a = t ++ [b] ++ [a] := psh_f (by simp; exact h)
theorem psh_0 (a : Nat) : psh [] a = [a] := psh_f (by simp)
theorem Rd_init {t : List Nat} {a : Nat} (h : Rd (t ++ [a])) : Rd t := ((Rd_app _ _).mp h).1
theorem psh_Rd {xs : List Nat} (a : Nat) (h : Rd xs) : Rd (psh xs a) := by
  rcases fm_snoc xs with e | ⟨t, b, e⟩
  · subst e; rw [psh_0]; trivial
  · subst e
    by_cases hb : b = fv a
    · rw [psh_t hb]; exact Rd_init h
    · rw [psh_f' hb]
      exact (Rd_app _ _).mpr ⟨h, trivial, fun x y hx hy => by simp at hx hy; rw [← hx, ← hy]; exact hb⟩
theorem psh_psh {xs : List Nat} (a : Nat) (h : Rd xs) : psh (psh xs a) (fv a) = xs := by
  rcases fm_snoc xs with e | ⟨t, b, e⟩
  · subst e
    rw [psh_0]
    exact psh_t (t := []) (fv_fv a).symm
  · subst e
    by_cases hb : b = fv a
    · rw [psh_t hb, hb]
      refine psh_f (fun z => ?_)
      exact ((Rd_app _ _).mp h).2.2 _ b z rfl (by rw [hb])
    · rw [psh_f' hb]
      exact psh_t (fv_fv a).symm
theorem psh_psh' {xs : List Nat} (a : Nat) (h : Rd xs) : psh (psh xs (fv a)) a = xs := by
  have h1 := psh_psh (fv a) h
  rwa [fv_fv] at h1
/-- letters added behind, one after the other -/
def act (r ys : List Nat) : List Nat := ys.foldl psh r
def red (ys : List Nat) : List Nat := act [] ys
theorem act_nil (r : List Nat) : act r [] = r := rfl
theorem act_cons (r : List Nat) (y : Nat) (t : List Nat) : act r (y :: t) = act (psh r y) t := rfl
theorem act_app (r xs ys : List Nat) : act r (xs ++ ys) = act (act r xs) ys := by simp [act]
theorem act_Rd : ∀ (ys : List Nat) {r : List Nat}, Rd r → Rd (act r ys)
  | [], _, h => h
  | y :: t, _, h => act_Rd t (psh_Rd y h)
theorem red_Rd (ys : List Nat) : Rd (red ys) := act_Rd ys trivial
theorem act_id : ∀ (ys r : List Nat), Rd (r ++ ys) → act r ys = r ++ ys
  | [], r, _ => by simp [act_nil]
  | y :: t, r, h => by
    have h1 := (Rd_app _ _).mp h
    rw [act_cons, psh_f (fun z => h1.2.2 _ y z rfl rfl), act_id t (r ++ [y]) (by simpa using h)]
    simp
theorem red_id {xs : List Nat} (h : Rd xs) : red xs = xs := act_id xs [] h
theorem act_iv : ∀ (ys : List Nat) {r : List Nat}, Rd r → act (act r ys) (iv ys) = r
  | [], _, _ => rfl
  | y :: t, r, h => by
    rw [act_cons, iv_cons, act_app, act_iv t (psh_Rd y h)]
    exact psh_psh y h
theorem act_iv' (ys : List Nat) {r : List Nat} (h : Rd r) : act (act r (iv ys)) ys = r := by
  have h1 := act_iv (iv ys) h
  rwa [iv_iv] at h1
theorem act_psh {r xs : List Nat} (a : Nat) (hr : Rd r) (hx : Rd xs) : act r (psh xs a) = psh (act r xs) a := by
  rcases fm_snoc xs with e | ⟨t, b, e⟩
  · subst e; rw [psh_0]; rfl
  · subst e
    by_cases hb : b = fv a
    · rw [psh_t hb, act_app, hb]
      exact (psh_psh' a (act_Rd t hr)).symm
    · rw [psh_f' hb, act_app]
      rfl
theorem act_act {r : List Nat} (hr : Rd r) : ∀ (ys : List Nat) {xs : List Nat}, Rd xs → act r (act xs ys) = act (act r xs) ys
  | [], _, _ => rfl
  | y :: t, xs, hx => by rw [act_cons, act_act hr t (psh_Rd y hx), act_psh y hr hx]; rfl
theorem act_red {r : List Nat} (hr : Rd r) (ys : List Nat) : act r (red ys) = act r ys := act_act hr ys (xs := []) trivial
theorem red_red (ys : List Nat) : red (red ys) = red ys := red_id (red_Rd ys)
theorem act_eq {r : List Nat} (hr : Rd r) (ys : List Nat) : act r ys = red (r ++ ys) := by
  unfold red
  rw [act_app, show act [] r = r from red_id hr]
/-- they do the same wherever they are added -/
def Eqv (xs ys : List Nat) : Prop := ∀ r, Rd r → act r xs = act r ys
theorem eqv_rf (xs : List Nat) : Eqv xs xs := fun _ _ => rfl
theorem eqv_sm {xs ys : List Nat} (h : Eqv xs ys) : Eqv ys xs := fun r hr => (h r hr).symm
theorem eqv_tr {xs ys zs : List Nat} (h : Eqv xs ys) (h2 : Eqv ys zs) : Eqv xs zs := fun r hr => (h r hr).trans (h2 r hr)
theorem eqv_ap {xs ys us vs : List Nat} (h : Eqv xs ys) (h2 : Eqv us vs) : Eqv (xs ++ us) (ys ++ vs) := fun r hr => by
  rw [act_app, act_app, h r hr]
  exact h2 _ (act_Rd ys hr)
theorem eqv_rd {xs ys : List Nat} (h : Eqv xs ys) : red xs = red ys := h [] trivial
theorem eqv_red (xs : List Nat) : Eqv (red xs) xs := fun _ hr => act_red hr xs
theorem eqv_of {xs ys : List Nat} (h : red xs = red ys) : Eqv xs ys := fun r hr => by rw [← act_red hr xs, h, act_red hr ys]
theorem eqv_l (xs : List Nat) : Eqv (xs ++ iv xs) [] := fun r hr => by rw [act_app]; exact act_iv xs hr
theorem eqv_r (xs : List Nat) : Eqv (iv xs ++ xs) [] := fun r hr => by rw [act_app]; exact act_iv' xs hr
theorem eqv_iv {xs ys : List Nat} (h : Eqv xs ys) : Eqv (iv xs) (iv ys) := fun r hr => by
  have h1 : act (act r (iv xs)) ys = r := by rw [← h _ (act_Rd _ hr)]; exact act_iv' xs hr
  have h2 := act_iv ys (r := act r (iv xs)) (act_Rd _ hr)
  rw [h1] at h2
  exact h2.symm
/-- x c x' in the middle of others: one side taken off -/
theorem eqv_mid {xs ys us vs : List Nat} (h : Eqv us vs) : Eqv (xs ++ us ++ ys) (xs ++ vs ++ ys) := eqv_ap (eqv_ap (eqv_rf xs) h) (eqv_rf ys)
theorem red_app (xs ys : List Nat) : red (red xs ++ ys) = red (xs ++ ys) := eqv_rd (eqv_ap (eqv_red xs) (eqv_rf ys))
theorem red_app' (xs ys : List Nat) : red (xs ++ red ys) = red (xs ++ ys) := eqv_rd (eqv_ap (eqv_rf xs) (eqv_red ys))
/-! pieces of an endless row -/
def seg (f : Nat → Nat) (a n : Nat) : List Nat := (List.range n).map (fun i => f (a + i))
theorem seg_len (f : Nat → Nat) (a n : Nat) : (seg f a n).length = n := by simp [seg]
theorem seg_0 (f : Nat → Nat) (a : Nat) : seg f a 0 = [] := rfl
theorem seg_at {f : Nat → Nat} {a n i : Nat} (h : i < n) : (seg f a n)[i]? = some (f (a + i)) := by simp [seg, h]
theorem seg_app (f : Nat → Nat) (a n k : Nat) : seg f a (n + k) = seg f a n ++ seg f (a + n) k := by
  simp [seg, List.range_add, Function.comp_def, Nat.add_assoc]
theorem seg_cons (f : Nat → Nat) (a n : Nat) : seg f a (n + 1) = f a :: seg f (a + 1) n := by
  rw [Nat.add_comm n 1, seg_app]; rfl
theorem seg_snoc (f : Nat → Nat) (a n : Nat) : seg f a (n + 1) = seg f a n ++ [f (a + n)] := by rw [seg_app]; rfl
theorem seg_cong {f g : Nat → Nat} {a b n : Nat} (h : ∀ i, i < n → f (a + i) = g (b + i)) : seg f a n = seg g b n := by
  unfold seg
  exact List.map_congr_left fun i hi => h i (List.mem_range.mp hi)
theorem seg_last {f : Nat → Nat} {a n : Nat} : (seg f a (n + 1)).getLast? = some (f (a + n)) := by rw [seg_snoc]; simp
theorem seg_head {f : Nat → Nat} {a n : Nat} : (seg f a (n + 1)).head? = some (f a) := by rw [seg_cons]; rfl
/-- a row that cancels nowhere, going round -/
def Rnd (f : Nat → Nat) : Prop := ∀ i, f i ≠ fv (f (i + 1))
theorem seg_Rd {f : Nat → Nat} (h : Rnd f) : ∀ (n a : Nat), Rd (seg f a n)
  | 0, _ => trivial
  | 1, _ => trivial
  | n + 2, a => by
    rw [seg_cons, seg_cons]
    refine ⟨h a, ?_⟩
    have h1 := seg_Rd h (n + 1) (a + 1)
    rwa [seg_cons] at h1
def Per (f : Nat → Nat) (n : Nat) : Prop := ∀ i, f (i + n) = f i
theorem per_mul {f : Nat → Nat} {n : Nat} (h : Per f n) : ∀ k, Per f (n * k)
  | 0 => fun i => rfl
  | k + 1 => fun i => by rw [Nat.mul_succ, ← Nat.add_assoc, h, per_mul h k i]
theorem per_sub {f : Nat → Nat} {a b : Nat} (ha : Per f a) (hb : Per f b) (h : a ≤ b) : Per f (b - a) := fun i => by
  rw [← ha (i + (b - a)), Nat.add_assoc, Nat.sub_add_cancel h, hb]
theorem per_mod {f : Nat → Nat} {a b : Nat} (ha : Per f a) (hb : Per f b) : Per f (b % a) := by
  have h1 : b % a = b - a * (b / a) := by have := Nat.div_add_mod b a; omega
  rw [h1]
  exact per_sub (per_mul ha _) hb (Nat.mul_div_le b a)
theorem per_gcd {f : Nat → Nat} : ∀ (a b : Nat), Per f a → Per f b → Per f (Nat.gcd a b) := by
  intro a b
  refine Nat.gcd.induction (P := fun a b => Per f a → Per f b → Per f (Nat.gcd a b)) a b ?_ ?_
  · intro n _ hn
    rwa [Nat.gcd_zero_left]
  · intro m n _ ih hm hn
    rw [Nat.gcd_rec]
    exact ih (per_mod hm hn) hm
theorem seg_shift {f : Nat → Nat} {p : Nat} (h : Per f p) (a n : Nat) : seg f (a + p) n = seg f a n := seg_cong fun i _ => by rw [show a + p + i = a + i + p by omega, h]
/-- forward: what stands behind y falls into the row turned on -/
theorem cj_fwd {f : Nat → Nat} {n : Nat} (hR : Rnd f) (hp : Per f (n + 1)) : ∀ (k : Nat) (y : List Nat) (a : Nat), y.length = k → Rd y → y.getLast? ≠ some (f (a + n)) →
    ∃ m v, y = v ++ iv (seg f a m) ∧ Rd (v ++ seg f (a + m) (n + 1) ++ iv v)
  | 0, y, a, hy, _, _ => by
    have h0 : y = [] := List.eq_nil_of_length_eq_zero hy
    subst h0
    refine ⟨0, [], rfl, ?_⟩
    simp only [List.nil_append, iv_nil, List.append_nil]
    exact seg_Rd hR _ _
  | k + 1, y, a, hy, hr, hl => by
    rcases fm_snoc y with h | ⟨t, x, h⟩
    · subst h; cases hy
    · subst h
      have hxl : x ≠ f (a + n) := fun z => hl (by rw [z]; simp)
      by_cases hx : x = fv (f a)
      · have ht : t.getLast? ≠ some (f (a + 1 + n)) := by
          intro z
          refine ((Rd_app _ _).mp hr).2.2 _ x z rfl ?_
          rw [hx, fv_fv, show a + 1 + n = a + (n + 1) by omega, hp]
        obtain ⟨m, v, e1, e2⟩ := cj_fwd hR hp k t (a + 1) (by simpa using hy) (Rd_init hr) ht
        refine ⟨m + 1, v, ?_, by rw [show a + (m + 1) = a + 1 + m by omega]; exact e2⟩
        rw [e1, seg_cons, iv_cons, hx]
        simp
      · refine ⟨0, t ++ [x], by simp [seg_0, iv], ?_⟩
        refine (Rd_app _ _).mpr ⟨(Rd_app _ _).mpr ⟨hr, seg_Rd hR _ _, fun p q hp1 hq => ?_⟩, Rd_iv hr, fun p q hp1 hq => ?_⟩
        · rw [seg_head] at hq
          simp at hp1 hq
          rw [← hp1, ← hq]
          exact hx
        · rw [List.getLast?_append, seg_last] at hp1
          rw [iv_head] at hq
          simp at hp1 hq
          rw [← hp1, ← hq, fv_fv]
          exact fun z => hxl z.symm
/-- backward -/
theorem cj_bwd {f : Nat → Nat} {n : Nat} (hR : Rnd f) (hp : Per f (n + 1)) : ∀ (k : Nat) (y : List Nat) (a : Nat), y.length = k → k ≤ a → Rd y → y.getLast? ≠ some (fv (f a)) →
    ∃ m v, m ≤ a ∧ y = v ++ seg f (a - m) m ∧ Rd (v ++ seg f (a - m) (n + 1) ++ iv v)
  | 0, y, a, hy, _, _, _ => by
    have h0 : y = [] := List.eq_nil_of_length_eq_zero hy
    subst h0
    refine ⟨0, [], Nat.zero_le _, rfl, ?_⟩
    simp only [List.nil_append, iv_nil, List.append_nil]
    exact seg_Rd hR _ _
  | k + 1, y, a, hy, hk, hr, hl => by
    rcases fm_snoc y with h | ⟨t, x, h⟩
    · subst h; cases hy
    · subst h
      obtain ⟨b, rfl⟩ : ∃ b, a = b + 1 := ⟨a - 1, by omega⟩
      have hxl : x ≠ fv (f (b + 1)) := fun z => hl (by rw [z]; simp)
      by_cases hx : x = f b
      · have ht : t.getLast? ≠ some (fv (f b)) := by
          intro z
          exact ((Rd_app _ _).mp hr).2.2 _ x z rfl (by rw [hx])
        obtain ⟨m, v, e0, e1, e2⟩ := cj_bwd hR hp k t b (by simpa using hy) (by omega) (Rd_init hr) ht
        refine ⟨m + 1, v, by omega, ?_, by rw [show b + 1 - (m + 1) = b - m by omega]; exact e2⟩
        rw [show b + 1 - (m + 1) = b - m by omega, e1, seg_snoc, show b - m + m = b by omega, hx]
        simp
      · refine ⟨0, t ++ [x], Nat.zero_le _, by simp [seg_0], ?_⟩
        refine (Rd_app _ _).mpr ⟨(Rd_app _ _).mpr ⟨hr, seg_Rd hR _ _, fun p q hp1 hq => ?_⟩, Rd_iv hr, fun p q hp1 hq => ?_⟩
        · rw [Nat.sub_zero, seg_head] at hq
          simp at hp1 hq
          rw [← hp1, ← hq]
          exact hxl
        · rw [List.getLast?_append, Nat.sub_zero, seg_last] at hp1
          rw [iv_head] at hq
          simp at hp1 hq
          rw [← hp1, ← hq, fv_fv, show b + 1 + n = b + (n + 1) by omega, hp]
          exact fun z => hx z.symm
theorem psh_len (xs : List Nat) (a : Nat) : (psh xs a).length ≤ xs.length + 1 := by
  rcases fm_snoc xs with e | ⟨t, b, e⟩
  · subst e; rw [psh_0]; exact Nat.le_refl _
  · subst e
    by_cases hb : b = fv a
    · rw [psh_t hb]; simp; omega
    · rw [psh_f' hb]; simp
theorem act_len : ∀ (ys r : List Nat), (act r ys).length ≤ r.length + ys.length
  | [], r => Nat.le_refl _
  | y :: t, r => by
    rw [act_cons]
    have h1 := act_len t (psh r y)
    have h2 := psh_len r y
    simp only [List.length_cons]
    omega
theorem red_len (ys : List Nat) : (red ys).length ≤ ys.length := by
  have h := act_len ys []
  simpa [red] using h
/-- what is conjugated, by its parts -/
def cj_w (f : Nat → Nat) (n : Nat) (u : List Nat) (s : Nat) : List Nat := u ++ seg f s (n + 1) ++ iv u
theorem cj_turn (f : Nat → Nat) {n : Nat} (hp : Per f (n + 1)) (a m : Nat) : seg f a (n + 1) ++ seg f a m = seg f a m ++ seg f (a + m) (n + 1) := by
  have h := seg_shift hp a m
  have h2 := seg_app f a (n + 1) m
  rw [h] at h2
  rw [← h2, Nat.add_comm (n + 1) m, seg_app]
theorem cj_eqv {x y c d : List Nat} (h : c ++ y = y ++ d) (hx : x = iv y) : Eqv (x ++ c ++ y) d := by
  rw [List.append_assoc, h, ← List.append_assoc, hx]
  exact eqv_tr (eqv_ap (eqv_r y) (eqv_rf d)) (eqv_rf _)
theorem cj_eqv' {x y c d : List Nat} (h : y ++ c = d ++ y) (hx : x = iv y) : Eqv (y ++ c ++ x) d := by
  rw [h, List.append_assoc, hx]
  have h1 := eqv_ap (eqv_rf d) (eqv_l y)
  rwa [List.append_nil] at h1
theorem cj_uu {f : Nat → Nat} {n : Nat} {u x : List Nat} : Eqv (x ++ iv u ++ cj_w f n u 0 ++ iv (x ++ iv u)) (x ++ seg f 0 (n + 1) ++ iv x) := by
  have h1 : x ++ iv u ++ cj_w f n u 0 ++ iv (x ++ iv u) = x ++ (iv u ++ u) ++ seg f 0 (n + 1) ++ (iv u ++ u) ++ iv x := by
    rw [cj_w, iv_app, iv_iv]; simp
  rw [h1]
  have h2 : Eqv (x ++ (iv u ++ u) ++ seg f 0 (n + 1) ++ (iv u ++ u) ++ iv x) (x ++ [] ++ seg f 0 (n + 1) ++ [] ++ iv x) := eqv_ap (eqv_ap (eqv_ap (eqv_ap (eqv_rf x) (eqv_r u)) (eqv_rf _)) (eqv_r u)) (eqv_rf _)
  simpa using h2
/-- z w z⁻¹, by its parts -/
theorem cj_form {f : Nat → Nat} {n : Nat} (hR : Rnd f) (hp : Per f (n + 1)) {u z : List Nat} (hz : Rd z) : ∃ v s m, red (z ++ cj_w f n u 0 ++ iv z) = cj_w f n v s ∧ Rd (cj_w f n v s) ∧
    ((s = m ∧ red (z ++ u) = v ++ iv (seg f 0 m)) ∨ ∃ k, m ≤ (n + 1) * (k + 1) ∧ s = (n + 1) * (k + 1) - m ∧ red (z ++ u) = v ++ seg f s m) := by
  have hy := red_Rd (z ++ u)
  have e0 : Eqv (z ++ cj_w f n u 0 ++ iv z) (red (z ++ u) ++ seg f 0 (n + 1) ++ iv (red (z ++ u))) := by
    have h1 : z ++ cj_w f n u 0 ++ iv z = (z ++ u) ++ seg f 0 (n + 1) ++ iv (z ++ u) := by rw [cj_w, iv_app]; simp
    rw [h1]
    exact eqv_ap (eqv_ap (eqv_sm (eqv_red _)) (eqv_rf _)) (eqv_iv (eqv_sm (eqv_red _)))
  generalize red (z ++ u) = y at hy e0 ⊢
  by_cases hl : y.getLast? = some (f (0 + n))
  · have hl2 : y.getLast? ≠ some (fv (f ((n + 1) * (y.length + 1)))) := by
      intro q
      rw [hl] at q
      have q1 := Option.some.inj q
      rw [← Nat.zero_add ((n + 1) * (y.length + 1)), per_mul hp, Nat.zero_add] at q1
      refine hR n ?_
      rw [q1, ← hp 0, Nat.zero_add]
    have hk : y.length ≤ (n + 1) * (y.length + 1) := by
      have := Nat.le_mul_of_pos_left (y.length + 1) (show 0 < n + 1 by omega)
      omega
    obtain ⟨m, v, e1, e2, e3⟩ := cj_bwd hR hp y.length y ((n + 1) * (y.length + 1)) rfl hk hy hl2
    refine ⟨v, (n + 1) * (y.length + 1) - m, m, ?_, e3, Or.inr ⟨y.length, e1, rfl, e2⟩⟩
    generalize hA : (n + 1) * (y.length + 1) = a at e1 e2 e3 ⊢
    have hc : seg f 0 (n + 1) = seg f a (n + 1) := by
      have h3 := seg_shift (f := f) (per_mul hp (y.length + 1)) 0 (n + 1)
      rw [hA, Nat.zero_add] at h3
      exact h3.symm
    have e4 : Eqv (y ++ seg f 0 (n + 1) ++ iv y) (cj_w f n v (a - m)) := by
      rw [e2, iv_app, hc]
      have h4 : v ++ seg f (a - m) m ++ seg f a (n + 1) ++ (iv (seg f (a - m) m) ++ iv v) = v ++ (seg f (a - m) m ++ seg f a (n + 1) ++ iv (seg f (a - m) m)) ++ iv v := by simp
      rw [h4]
      refine eqv_mid (cj_eqv' ?_ rfl)
      rw [cj_turn f hp (a - m) m, show a - m + m = a by omega]
    rw [eqv_rd (eqv_tr e0 e4)]; exact red_id e3
  · obtain ⟨m, v, e2, e3⟩ := cj_fwd hR hp y.length y 0 rfl hy hl
    rw [Nat.zero_add] at e3
    refine ⟨v, m, m, ?_, e3, Or.inl ⟨rfl, e2⟩⟩
    have e4 : Eqv (y ++ seg f 0 (n + 1) ++ iv y) (cj_w f n v m) := by
      rw [e2, iv_app, iv_iv]
      have h4 : v ++ iv (seg f 0 m) ++ seg f 0 (n + 1) ++ (seg f 0 m ++ iv v) = v ++ (iv (seg f 0 m) ++ seg f 0 (n + 1) ++ seg f 0 m) ++ iv v := by simp
      rw [h4]
      refine eqv_mid (cj_eqv ?_ rfl)
      have h5 := cj_turn f hp 0 m
      rwa [Nat.zero_add] at h5
    rw [eqv_rd (eqv_tr e0 e4)]; exact red_id e3
theorem seg_all {f : Nat → Nat} {n s t : Nat} (hp : Per f (n + 1)) (h : seg f t (n + 1) = seg f s (n + 1)) (i : Nat) : f (t + i) = f (s + i) := by
  have h1 : ∀ j, j < n + 1 → f (t + j) = f (s + j) := fun j hj => by
    have h2 := congrArg (fun l => l[j]?) h
    simp only [seg_at hj, Option.some.injEq] at h2
    exact h2
  have h3 := h1 (i % (n + 1)) (Nat.mod_lt _ (Nat.succ_pos n))
  have h4 := Nat.mod_add_div i (n + 1)
  have h5 : ∀ r, f (r + i) = f (r + i % (n + 1)) := fun r => by
    rw [← per_mul hp (i / (n + 1)) (r + i % (n + 1))]
    congr 1
    omega
  rw [h5 t, h5 s, h3]
theorem seg_mod {f : Nat → Nat} {n : Nat} (hp : Per f (n + 1)) (s k : Nat) : seg f (s % (n + 1)) k = seg f s k := by
  have h4 := Nat.mod_add_div s (n + 1)
  have h5 := seg_shift (f := f) (per_mul hp (s / (n + 1))) (s % (n + 1)) k
  rw [h4] at h5
  exact h5.symm
/-- the first turn -/
def Tn (f : Nat → Nat) (n s t : Nat) : Prop := t < n + 1 ∧ seg f t (n + 1) = seg f s (n + 1) ∧ ∀ q, q < t → seg f q (n + 1) ≠ seg f s (n + 1)
/-- the shortest part that the row is made of -/
def Pd (f : Nat → Nat) (n p : Nat) : Prop := 1 ≤ p ∧ p ∣ n + 1 ∧ Per f p ∧ ∀ q, 1 ≤ q → q < p → q ∣ n + 1 → ¬ Per f q
theorem Tn_ex {f : Nat → Nat} {n : Nat} (hp : Per f (n + 1)) (s : Nat) : ∃ t, Tn f n s t := by
  obtain ⟨t, h1, h2⟩ := pk_least (fun t => t < n + 1 ∧ seg f t (n + 1) = seg f s (n + 1)) ⟨s % (n + 1), Nat.mod_lt _ (Nat.succ_pos n), seg_mod hp s _⟩
  exact ⟨t, h1.1, h1.2, fun q hq z => h2 q hq ⟨by omega, z⟩⟩
theorem Pd_ex {f : Nat → Nat} {n : Nat} (hp : Per f (n + 1)) : ∃ p, Pd f n p := by
  obtain ⟨p, h1, h2⟩ := pk_least (fun p => 1 ≤ p ∧ p ∣ n + 1 ∧ Per f p) ⟨n + 1, by omega, Nat.dvd_refl _, hp⟩
  exact ⟨p, h1.1, h1.2.1, h1.2.2, fun q h3 h4 h5 h6 => h2 q h4 ⟨h3, h5, h6⟩⟩
theorem Tn_lt {f : Nat → Nat} {n s t p : Nat} (ht : Tn f n s t) (hd : Pd f n p) : t < p := by
  rcases Nat.lt_or_ge t p with h | h
  · exact h
  · refine absurd ?_ (ht.2.2 (t - p) (by have := hd.1; omega))
    have h1 := seg_shift hd.2.2.1 (t - p) (n + 1)
    rw [Nat.sub_add_cancel h] at h1
    rw [← h1]; exact ht.2.1
/-- both ways do -/
theorem cj_one {f : Nat → Nat} {n s t : Nat} (hp : Per f (n + 1)) {u v : List Nat} (hM : Rd (cj_w f n v s)) (ht : Tn f n s t) {K : List Nat} (hK : Eqv K (v ++ iv (seg f 0 t) ++ iv u)) : red (K ++ cj_w f n u 0 ++ iv K) = cj_w f n v s := by
  have h1 := eqv_rd (eqv_ap (eqv_ap hK (eqv_rf (cj_w f n u 0))) (eqv_iv hK))
  rw [h1, eqv_rd cj_uu, iv_app, iv_iv, ← red_id hM, cj_w, ← ht.2.1]
  refine eqv_rd ?_
  have h4 : v ++ iv (seg f 0 t) ++ seg f 0 (n + 1) ++ (seg f 0 t ++ iv v) = v ++ (iv (seg f 0 t) ++ seg f 0 (n + 1) ++ seg f 0 t) ++ iv v := by simp
  rw [h4]
  refine eqv_mid (cj_eqv ?_ rfl)
  have h5 := cj_turn f hp 0 t
  rwa [Nat.zero_add] at h5
theorem cj_two {f : Nat → Nat} {n s t p : Nat} (hp : Per f (n + 1)) {u v : List Nat} (hM : Rd (cj_w f n v s)) (ht : Tn f n s t) (hd : Pd f n p) {K : List Nat} (hK : Eqv K (v ++ seg f t (p - t) ++ iv u)) : red (K ++ cj_w f n u 0 ++ iv K) = cj_w f n v s := by
  have h0 := Tn_lt ht hd
  have h1 := eqv_rd (eqv_ap (eqv_ap hK (eqv_rf (cj_w f n u 0))) (eqv_iv hK))
  rw [h1, eqv_rd cj_uu, iv_app, ← red_id hM, cj_w, ← ht.2.1]
  refine eqv_rd ?_
  have h4 : v ++ seg f t (p - t) ++ seg f 0 (n + 1) ++ (iv (seg f t (p - t)) ++ iv v) = v ++ (seg f t (p - t) ++ seg f 0 (n + 1) ++ iv (seg f t (p - t))) ++ iv v := by simp
  rw [h4]
  refine eqv_mid (cj_eqv' ?_ rfl)
  have h5 := seg_shift hd.2.2.1 0 (n + 1)
  rw [Nat.zero_add] at h5
  rw [cj_turn f hp t (p - t), show t + (p - t) = p by omega, h5]
/-- no way is shorter; one as short is one of the two -/
theorem cj_best {f : Nat → Nat} {n : Nat} (hR : Rnd f) (hp : Per f (n + 1)) {u z : List Nat} (hu : Rd (cj_w f n u 0)) (hz : Rd z) : ∃ v s, red (z ++ cj_w f n u 0 ++ iv z) = cj_w f n v s ∧ Rd (cj_w f n v s) ∧ ∀ t p, Tn f n s t → Pd f n p →
    z = red (v ++ iv (seg f 0 t) ++ iv u) ∨ z = red (v ++ seg f t (p - t) ++ iv u) ∨ (red (v ++ iv (seg f 0 t) ++ iv u)).length < z.length ∨ (red (v ++ seg f t (p - t) ++ iv u)).length < z.length := by
  obtain ⟨v, s, m, e1, e2, e3⟩ := cj_form (u := u) hR hp hz
  refine ⟨v, s, e1, e2, fun t p ht hd => ?_⟩
  have hy := red_Rd (z ++ u)
  have hzy : red (red (z ++ u) ++ iv u) = z := by
    rw [red_app, List.append_assoc]
    have h1 := eqv_ap (eqv_rf z) (eqv_l u)
    rw [eqv_rd h1, List.append_nil, red_id hz]
  have hjoin : ∀ x, (red (z ++ u)).getLast? = some x → u.getLast? ≠ some x → z.length = (red (z ++ u)).length + u.length := by
    intro x h1 h2
    have h3 : Rd (red (z ++ u) ++ iv u) := by
      refine (Rd_app _ _).mpr ⟨hy, Rd_iv ((Rd_app _ _).mp ((Rd_app _ _).mp hu).1).1, fun a b ha hb => ?_⟩
      rw [h1] at ha
      cases ha
      rw [iv_head] at hb
      cases hq : u.getLast? with
      | none => rw [hq] at hb; cases hb
      | some g =>
        rw [hq] at hb
        cases hb
        rw [fv_fv]
        intro hx
        exact h2 (by rw [hq, hx])
    rw [red_id h3] at hzy
    have h4 := congrArg List.length hzy
    rw [List.length_append, iv_len] at h4
    exact h4.symm
  rcases e3 with ⟨rfl, e4⟩ | ⟨k, e4, e5, e6⟩
  · have hle : t ≤ s := by
      rcases Nat.lt_or_ge (s % (n + 1)) t with h | h
      · exact absurd (seg_mod hp s (n + 1)) (ht.2.2 _ h)
      · exact Nat.le_trans h (Nat.mod_le _ _)
    rcases Nat.lt_or_ge t s with h | h
    · right; right; left
      obtain ⟨j, rfl⟩ : ∃ j, s = j + 1 := ⟨s - 1, by omega⟩
      have h1 := hjoin (fv (f 0)) (by rw [e4, List.getLast?_append, iv_last, seg_head]; rfl) (fun q => ((Rd_app _ _).mp ((Rd_app _ _).mp hu).1).2.2 _ _ q seg_head rfl)
      have h2 := red_len (v ++ iv (seg f 0 t) ++ iv u)
      rw [h1, e4]
      simp only [List.length_append, iv_len, seg_len] at h2 ⊢
      omega
    · left
      have h1 : t = s := by omega
      rw [h1, ← e4, hzy]
  · rcases Nat.eq_zero_or_pos m with h0 | h0
    · left
      have h1 : t = 0 := by
        rcases Nat.eq_zero_or_pos t with h | h
        · exact h
        · refine absurd ?_ (ht.2.2 0 h)
          have h2 := seg_shift (f := f) (per_mul hp (k + 1)) 0 (n + 1)
          rw [e5, h0, Nat.sub_zero, ← h2, Nat.zero_add]
      have h2 : red (z ++ u) = v := by rw [e6, h0, seg_0, List.append_nil]
      rw [h1, seg_0, iv_nil, List.append_nil, ← h2, hzy]
    · have hall := seg_all hp ht.2.1
      have hper : Per f (t + m) := fun i => by
        have h1 := hall (i + m)
        rw [show i + (t + m) = t + (i + m) by omega, h1, e5, show (n + 1) * (k + 1) - m + (i + m) = i + (n + 1) * (k + 1) by omega, per_mul hp]
      have hg := per_gcd _ _ hper hp
      have hg1 : Nat.gcd (t + m) (n + 1) ≤ t + m := Nat.le_of_dvd (by omega) (Nat.gcd_dvd_left _ _)
      have hg2 : 1 ≤ Nat.gcd (t + m) (n + 1) := Nat.gcd_pos_of_pos_left _ (by omega)
      have hpm : p ≤ t + m := by
        rcases Nat.lt_or_ge (Nat.gcd (t + m) (n + 1)) p with h | h
        · exact absurd hg (hd.2.2.2 _ hg2 h (Nat.gcd_dvd_right _ _))
        · omega
      rcases Nat.lt_or_ge (p - t) m with h | h
      · right; right; right
        obtain ⟨j, rfl⟩ : ∃ j, m = j + 1 := ⟨m - 1, by omega⟩
        have hfn : f (s + j) = f n := by
          have h1 : s + j = n + (n + 1) * k := by
            have : (n + 1) * (k + 1) = (n + 1) * k + (n + 1) := Nat.mul_succ _ _
            omega
          rw [h1, per_mul hp]
        have h1 := hjoin (f n) (by rw [e6, List.getLast?_append, seg_last, hfn]; rfl) (fun q => by
          have h2 := ((Rd_app _ _).mp hu).2.2 (f n) (fv (f n)) (by rw [List.getLast?_append, seg_last, Nat.zero_add]; rfl) (by rw [iv_head, q]; rfl)
          exact h2 (fv_fv _).symm)
        have h2 := red_len (v ++ seg f t (p - t) ++ iv u)
        rw [h1, e6]
        simp only [List.length_append, iv_len, seg_len] at h2 ⊢
        omega
      · right; left
        have h1 : p - t = m := by omega
        have h2 : seg f t m = seg f s m := seg_cong fun i _ => hall i
        rw [h1, h2, ← e6, hzy]
/-! the same, letter by letter -/
def gd (xs : List Nat) (i : Nat) : Nat := xs.getD i 0
theorem gd_some {xs : List Nat} {i x : Nat} (h : xs[i]? = some x) : gd xs i = x := by simp [gd, h]
theorem gd_at {xs : List Nat} {i : Nat} (h : i < xs.length) : xs[i]? = some (gd xs i) := by simp [gd, h]
theorem gd_app1 {xs ys : List Nat} {i : Nat} (h : i < xs.length) : gd (xs ++ ys) i = gd xs i := by simp [gd, List.getElem?_append_left h]
theorem gd_app2 {xs ys : List Nat} {i : Nat} (h : xs.length ≤ i) : gd (xs ++ ys) i = gd ys (i - xs.length) := by simp [gd, List.getElem?_append_right h]
theorem gd_seg {f : Nat → Nat} {a n i : Nat} (h : i < n) : gd (seg f a n) i = f (a + i) := gd_some (seg_at h)
theorem gd_iv {xs : List Nat} {i : Nat} (h : i < xs.length) : gd (iv xs) i = fv (gd xs (xs.length - 1 - i)) := by
  refine gd_some ?_
  have h2 : xs.length - 1 - i < xs.length := by omega
  unfold iv
  rw [List.getElem?_reverse (by simpa using h)]
  simp only [List.length_map, List.getElem?_map, gd_at h2, Option.map_some]
theorem gd_ext {xs ys : List Nat} (hl : xs.length = ys.length) (h : ∀ i, i < xs.length → gd xs i = gd ys i) : xs = ys := by
  refine List.ext_getElem? fun i => ?_
  rcases Nat.lt_or_ge i xs.length with q | q
  · rw [gd_at q, gd_at (by omega), h i q]
  · rw [List.getElem?_eq_none q, List.getElem?_eq_none (by omega)]
theorem gd_all (xs : List Nat) : seg (gd xs) 0 xs.length = xs := gd_ext (seg_len _ _ _) fun i hi => by rw [seg_len] at hi; rw [gd_seg hi, Nat.zero_add]
theorem Rd_at : ∀ {xs : List Nat}, Rd xs → ∀ i, i + 1 < xs.length → gd xs i ≠ fv (gd xs (i + 1))
  | [], _, i, hi => by simp at hi
  | [_], _, i, hi => by simp at hi
  | _ :: _ :: _, h, 0, _ => h.1
  | _ :: y :: t, h, i + 1, hi => Rd_at (xs := y :: t) h.2 i (by simpa using hi)
theorem Rd_of : ∀ {xs : List Nat}, (∀ i, i + 1 < xs.length → gd xs i ≠ fv (gd xs (i + 1))) → Rd xs
  | [], _ => trivial
  | [_], _ => trivial
  | _ :: y :: t, h => ⟨h 0 (by simp), Rd_of (xs := y :: t) fun i hi => h (i + 1) (by simpa using hi)⟩
def Ec (xs : List Nat) (i : Nat) : Prop := 2 * i + 1 < xs.length ∧ gd xs i = fv (gd xs (xs.length - 1 - i))
/-- where the core begins -/
def IsE (xs : List Nat) (e : Nat) : Prop := (∀ i, i < e → Ec xs i) ∧ ¬ Ec xs e
theorem IsE_ex (xs : List Nat) : ∃ e, IsE xs e := by
  obtain ⟨e, h1, h2⟩ := pk_least (fun e => ¬ Ec xs e) ⟨xs.length, fun h => by have := h.1; omega⟩
  exact ⟨e, fun i hi => Classical.byContradiction fun z => h2 i hi z, h1⟩
theorem IsE_le {xs : List Nat} {e : Nat} (h : IsE xs e) : 2 * e ≤ xs.length := by
  rcases Nat.eq_zero_or_pos e with q | q
  · omega
  · have := (h.1 (e - 1) (by omega)).1; omega
theorem IsE_core {xs : List Nat} {e : Nat} (hr : Rd xs) (h : IsE xs e) (h0 : xs ≠ []) : 2 * e < xs.length := by
  have hl : 0 < xs.length := List.length_pos_iff.mpr h0
  have h1 := IsE_le h
  rcases Nat.lt_or_ge (2 * e) xs.length with q | q
  · exact q
  · exfalso
    have h2 := h.1 (e - 1) (by omega)
    refine Rd_at hr (e - 1) (by omega) ?_
    rw [h2.2, show xs.length - 1 - (e - 1) = e - 1 + 1 by omega]
/-- the core, going round -/
def rnd (xs : List Nat) (e n : Nat) (i : Nat) : Nat := gd xs (e + i % (n + 1))
theorem rnd_per (xs : List Nat) (e n : Nat) : Per (rnd xs e n) (n + 1) := fun i => by simp [rnd]
theorem rnd_lt {xs : List Nat} {e n i : Nat} (h : i < n + 1) : rnd xs e n i = gd xs (e + i) := by rw [rnd, Nat.mod_eq_of_lt h]
theorem rnd_Rnd {xs : List Nat} {e n : Nat} (hr : Rd xs) (h : IsE xs e) (hl : xs.length = 2 * e + (n + 1)) : Rnd (rnd xs e n) := by
  intro i
  have h1 := Nat.mod_lt i (show 0 < n + 1 by omega)
  have h3 := Nat.mod_add_div i (n + 1)
  rcases Nat.lt_or_ge (i % (n + 1) + 1) (n + 1) with q | q
  · have h2 : (i + 1) % (n + 1) = i % (n + 1) + 1 := by
      rw [show i + 1 = (i % (n + 1) + 1) + (n + 1) * (i / (n + 1)) by omega, Nat.add_mul_mod_self_left, Nat.mod_eq_of_lt q]
    rw [rnd, rnd, h2]
    exact Rd_at hr (e + i % (n + 1)) (by omega)
  · have h4 : i % (n + 1) = n := by omega
    have h2 : (i + 1) % (n + 1) = 0 := by
      rw [show i + 1 = (n + 1) + (n + 1) * (i / (n + 1)) by omega, Nat.add_mul_mod_self_left, Nat.mod_self]
    rw [rnd, rnd, h2, h4, Nat.add_zero]
    rcases Nat.eq_zero_or_pos n with z | z
    · rw [z, Nat.add_zero]; exact fv_ne _
    · intro hx
      refine h.2 ⟨by omega, ?_⟩
      rw [fv_eq, show xs.length - 1 - e = e + n by omega, hx]
theorem cj_split {xs : List Nat} {e n : Nat} (h : IsE xs e) (hl : xs.length = 2 * e + (n + 1)) : xs = cj_w (rnd xs e n) n (seg (gd xs) 0 e) 0 := by
  refine gd_ext ?_ fun i hi => ?_
  · simp only [cj_w, List.length_append, seg_len, iv_len]; omega
  · rw [cj_w]
    rcases Nat.lt_or_ge i e with q | q
    · rw [gd_app1 (by simp only [List.length_append, seg_len]; omega), gd_app1 (by rw [seg_len]; exact q), gd_seg q, Nat.zero_add]
    · rcases Nat.lt_or_ge i (e + (n + 1)) with q2 | q2
      · rw [gd_app1 (by simp only [List.length_append, seg_len]; omega), gd_app2 (by rw [seg_len]; exact q), seg_len, gd_seg (by omega), Nat.zero_add, rnd_lt (by omega), show e + (i - e) = i by omega]
      · rw [gd_app2 (by simp only [List.length_append, seg_len]; omega)]
        simp only [List.length_append, seg_len]
        rw [gd_iv (by rw [seg_len]; omega), seg_len, gd_seg (by omega), Nat.zero_add]
        have h2 := (h.1 (e - 1 - (i - (e + (n + 1)))) (by omega)).2
        rw [h2, fv_fv, show xs.length - 1 - (e - 1 - (i - (e + (n + 1)))) = i by omega]
theorem cj_len (f : Nat → Nat) (n : Nat) (v : List Nat) (s : Nat) : (cj_w f n v s).length = 2 * v.length + (n + 1) := by
  simp only [cj_w, List.length_append, seg_len, iv_len]; omega
theorem cj_pre {f : Nat → Nat} {n s i : Nat} {v : List Nat} (h : i < v.length) : gd (cj_w f n v s) i = gd v i := by
  rw [cj_w, gd_app1 (by simp only [List.length_append]; omega), gd_app1 h]
theorem cj_in {f : Nat → Nat} {n s i : Nat} {v : List Nat} (h : i < n + 1) : gd (cj_w f n v s) (v.length + i) = f (s + i) := by
  rw [cj_w, gd_app1 (by simp only [List.length_append, seg_len]; omega), gd_app2 (by omega), gd_seg (by omega)]
  congr 1; omega
theorem cj_IsE {f : Nat → Nat} {n s : Nat} (hR : Rnd f) (hp : Per f (n + 1)) (v : List Nat) : IsE (cj_w f n v s) v.length := by
  constructor
  · intro i hi
    refine ⟨by rw [cj_len]; omega, ?_⟩
    rw [cj_pre hi, cj_len, cj_w, gd_app2 (by simp only [List.length_append, seg_len]; omega)]
    simp only [List.length_append, seg_len]
    rw [gd_iv (by omega), fv_fv, show v.length - 1 - (2 * v.length + (n + 1) - 1 - i - (v.length + (n + 1))) = i by omega]
  · rintro ⟨h1, h2⟩
    rw [cj_len] at h1 h2
    have h3 := cj_in (f := f) (n := n) (s := s) (v := v) (i := 0) (by omega)
    have h4 := cj_in (f := f) (n := n) (s := s) (v := v) (i := n) (by omega)
    rw [Nat.add_zero, Nat.add_zero] at h3
    rw [show 2 * v.length + (n + 1) - 1 - v.length = v.length + n by omega, h3, h4] at h2
    have h5 := hR (s + n)
    rw [show s + n + 1 = s + (n + 1) by omega, hp] at h5
    exact h5 (fv_eq.mpr h2.symm)
def Rp (xs : List Nat) (e core p : Nat) : Prop := ∀ i, p ≤ i → i < core → gd xs (e + i) = gd xs (e + i - p)
/-- the core's shortest part -/
def IsP (xs : List Nat) (e core p : Nat) : Prop := 1 ≤ p ∧ p ≤ core ∧ core % p = 0 ∧ Rp xs e core p ∧ ∀ q, 1 ≤ q → q < p → ¬ (core % q = 0 ∧ Rp xs e core q)
def It (M : List Nat) (eM : Nat) (w : List Nat) (ew core t : Nat) : Prop := ∀ i, i < core → gd M (eM + i) = gd w (ew + if i + t < core then i + t else i + t - core)
/-- by how many letters the core is turned -/
def IsT (M : List Nat) (eM : Nat) (w : List Nat) (ew core t : Nat) : Prop := t < core ∧ It M eM w ew core t ∧ ∀ q, q < t → ¬ It M eM w ew core q
theorem Rp_iff {xs : List Nat} {e n p : Nat} (h1 : 1 ≤ p) (hd : p ∣ n + 1) : Rp xs e (n + 1) p ↔ Per (rnd xs e n) p := by
  obtain ⟨K, hK⟩ := hd
  constructor
  · intro h
    have step : ∀ j, j + p < n + 1 → rnd xs e n (j + p) = rnd xs e n j := fun j hj => by
      rw [rnd_lt hj, rnd_lt (by omega), h (j + p) (by omega) hj]
      congr 1; omega
    have chain : ∀ k j, j + p * k < n + 1 → rnd xs e n (j + p * k) = rnd xs e n j := by
      intro k
      induction k with
      | zero => intro j _; rfl
      | succ k ih =>
        intro j hj
        rw [Nat.mul_succ, ← Nat.add_assoc] at hj ⊢
        rw [step _ hj, ih j (by omega)]
    intro i
    have h3 := Nat.mod_add_div i (n + 1)
    have h4 := Nat.mod_lt i (show 0 < n + 1 by omega)
    have e1 : rnd xs e n i = rnd xs e n (i % (n + 1)) := by simp [rnd]
    have e2 : rnd xs e n (i + p) = rnd xs e n (i % (n + 1) + p) := by simp [rnd, Nat.add_mod]
    rw [e1, e2]
    rcases Nat.lt_or_ge (i % (n + 1) + p) (n + 1) with q | q
    · exact step _ q
    · have hK1 : 1 ≤ K := by
        rcases Nat.eq_zero_or_pos K with z | z
        · rw [z, Nat.mul_zero] at hK; omega
        · exact z
      have e5 : p * (K - 1) + p = n + 1 := by
        rw [hK, ← Nat.mul_succ]
        congr 1
        omega
      have e6 : rnd xs e n (i % (n + 1) + p) = rnd xs e n (i % (n + 1) + p - (n + 1)) := by
        have h5 := rnd_per xs e n (i % (n + 1) + p - (n + 1))
        rw [Nat.sub_add_cancel q] at h5
        exact h5
      have e7 : i % (n + 1) + p - (n + 1) + p * (K - 1) = i % (n + 1) := by omega
      rw [e6, ← chain (K - 1) (i % (n + 1) + p - (n + 1)) (by rw [e7]; exact h4), e7]
  · intro h i hi hc
    have h2 := h (i - p)
    rw [Nat.sub_add_cancel hi, rnd_lt hc, rnd_lt (by omega)] at h2
    rw [h2]
    congr 1; omega
theorem IsP_Pd {xs : List Nat} {e n p : Nat} (h : Pd (rnd xs e n) n p) : IsP xs e (n + 1) p := by
  obtain ⟨h1, h2, h3, h4⟩ := h
  exact ⟨h1, Nat.le_of_dvd (by omega) h2, Nat.mod_eq_zero_of_dvd h2, (Rp_iff h1 h2).mpr h3, fun q q1 q2 q3 => h4 q q1 q2 (Nat.dvd_of_mod_eq_zero q3.1) ((Rp_iff q1 (Nat.dvd_of_mod_eq_zero q3.1)).mp q3.2)⟩
theorem It_iff {w : List Nat} {ew n s t : Nat} {v : List Nat} (ht : t < n + 1) : It (cj_w (rnd w ew n) n v s) v.length w ew (n + 1) t ↔ seg (rnd w ew n) t (n + 1) = seg (rnd w ew n) s (n + 1) := by
  have key : ∀ i, i < n + 1 → gd w (ew + if i + t < n + 1 then i + t else i + t - (n + 1)) = rnd w ew n (t + i) := fun i hi => by
    split
    · rename_i q
      rw [rnd_lt (by omega), Nat.add_comm t i]
    · rename_i q
      rw [← rnd_lt (xs := w) (e := ew) (n := n) (i := i + t - (n + 1)) (by omega), ← rnd_per w ew n (i + t - (n + 1)), Nat.sub_add_cancel (by omega), Nat.add_comm]
  constructor
  · intro h
    refine seg_cong fun i hi => ?_
    have h1 := h i hi
    rw [cj_in hi, key i hi] at h1
    exact h1.symm
  · intro h i hi
    rw [cj_in hi, key i hi]
    exact (seg_all (rnd_per w ew n) h i).symm
theorem IsT_Tn {w : List Nat} {ew n s t : Nat} {v : List Nat} (h : Tn (rnd w ew n) n s t) : IsT (cj_w (rnd w ew n) n v s) v.length w ew (n + 1) t :=
  ⟨h.1, (It_iff h.1).mpr h.2.1, fun q hq z => h.2.2 q hq ((It_iff (by have := h.1; omega)).mp z)⟩
/-! by length, then by the first letter that differs -/
def lx : List Nat → List Nat → Int32
  | a :: s, b :: t => if a < b then -1 else if b < a then 1 else lx s t
  | _, _ => 0
def fo (xs ys : List Nat) : Int32 := if xs.length < ys.length then -1 else if ys.length < xs.length then 1 else lx xs ys
theorem lx_self : ∀ xs : List Nat, lx xs xs = 0
  | [] => rfl
  | a :: s => by simp [lx, lx_self s]
theorem lx_neg : ∀ xs ys : List Nat, lx ys xs = - lx xs ys
  | [], [] => by simp [lx]
  | [], _ :: _ => by simp [lx]
  | _ :: _, [] => by simp [lx]
  | a :: s, b :: t => by
    simp only [lx]
    by_cases h1 : a < b
    · rw [if_pos h1, if_neg (by omega), if_pos h1]; rfl
    · rw [if_neg h1]
      by_cases h2 : b < a
      · rw [if_pos h2, if_neg h1, if_pos h2]
      · rw [if_neg h2, if_neg h2, if_neg h1]
        exact lx_neg s t
theorem lx_eq : ∀ xs ys : List Nat, xs.length = ys.length → lx xs ys = 0 → xs = ys
  | [], [], _, _ => rfl
  | [], _ :: _, h, _ => by simp at h
  | _ :: _, [], h, _ => by simp at h
  | a :: s, b :: t, h, h0 => by
    simp only [lx] at h0
    by_cases h1 : a < b
    · rw [if_pos h1] at h0; exact absurd h0 (by decide)
    · rw [if_neg h1] at h0
      by_cases h2 : b < a
      · rw [if_pos h2] at h0; exact absurd h0 (by decide)
      · rw [if_neg h2] at h0
        rw [show a = b by omega, lx_eq s t (by simpa using h) h0]
theorem lx_in : ∀ xs ys : List Nat, lx xs ys = -1 ∨ lx xs ys = 0 ∨ lx xs ys = 1
  | [], [] => Or.inr (Or.inl rfl)
  | [], _ :: _ => Or.inr (Or.inl rfl)
  | _ :: _, [] => Or.inr (Or.inl rfl)
  | a :: s, b :: t => by
    simp only [lx]
    by_cases h1 : a < b
    · rw [if_pos h1]; exact Or.inl rfl
    · rw [if_neg h1]
      by_cases h2 : b < a
      · rw [if_pos h2]; exact Or.inr (Or.inr rfl)
      · rw [if_neg h2]; exact lx_in s t
theorem fo_self (xs : List Nat) : fo xs xs = 0 := by simp [fo, lx_self]
theorem fo_neg (xs ys : List Nat) : fo ys xs = - fo xs ys := by
  unfold fo
  by_cases h1 : xs.length < ys.length
  · rw [if_pos h1, if_neg (by omega), if_pos h1]; rfl
  · rw [if_neg h1]
    by_cases h2 : ys.length < xs.length
    · rw [if_pos h2, if_neg h1, if_pos h2]
    · rw [if_neg h2, if_neg h2, if_neg h1]; exact lx_neg xs ys
theorem fo_eq {xs ys : List Nat} (h : fo xs ys = 0) : xs = ys := by
  unfold fo at h
  by_cases h1 : xs.length < ys.length
  · rw [if_pos h1] at h; exact absurd h (by decide)
  · rw [if_neg h1] at h
    by_cases h2 : ys.length < xs.length
    · rw [if_pos h2] at h; exact absurd h (by decide)
    · rw [if_neg h2] at h; exact lx_eq xs ys (by omega) h
theorem fo_in (xs ys : List Nat) : fo xs ys = -1 ∨ fo xs ys = 0 ∨ fo xs ys = 1 := by
  unfold fo
  by_cases h1 : xs.length < ys.length
  · rw [if_pos h1]; exact Or.inl rfl
  · rw [if_neg h1]
    by_cases h2 : ys.length < xs.length
    · rw [if_pos h2]; exact Or.inr (Or.inr rfl)
    · rw [if_neg h2]; exact lx_in xs ys
theorem fo_lt {xs ys : List Nat} (h : xs.length < ys.length) : fo xs ys = -1 := by unfold fo; rw [if_pos h]
theorem fo_neg_len {xs ys : List Nat} (h : fo xs ys < 0) : xs.length ≤ ys.length := by
  unfold fo at h
  by_cases h1 : xs.length < ys.length
  · omega
  · rw [if_neg h1] at h
    by_cases h2 : ys.length < xs.length
    · rw [if_pos h2] at h; exact absurd h (by decide)
    · omega
theorem fo_nneg_len {xs ys : List Nat} (h : ¬ fo xs ys < 0) : ys.length ≤ xs.length := by
  unfold fo at h
  by_cases h1 : xs.length < ys.length
  · rw [if_pos h1] at h; exact absurd (by decide) h
  · omega
/-- the first of two ways -/
def frst (K1 K2 : List Nat) : List Nat := if fo K2 K1 < 0 then K2 else K1
theorem frst_le {K1 K2 z : List Nat} (h : z = K1 ∨ z = K2 ∨ K1.length < z.length ∨ K2.length < z.length) : fo (frst K1 K2) z ≤ 0 := by
  unfold frst
  by_cases hc : fo K2 K1 < 0
  · rw [if_pos hc]
    have h1 := fo_neg_len hc
    rcases h with rfl | rfl | h | h
    · rcases fo_in K2 z with q | q | q
      · rw [q]; decide
      · rw [q]; decide
      · rw [q] at hc; exact absurd hc (by decide)
    · rw [fo_self]; decide
    · rw [fo_lt (by omega)]; decide
    · rw [fo_lt h]; decide
  · rw [if_neg hc]
    have h1 := fo_nneg_len hc
    rcases h with rfl | rfl | h | h
    · rw [fo_self]; decide
    · rw [fo_neg z K1]
      rcases fo_in z K1 with q | q | q
      · rw [q] at hc; exact absurd (by decide) hc
      · rw [q]; decide
      · rw [q]; decide
    · rw [fo_lt h]; decide
    · rw [fo_lt (by omega)]; decide
/-- all that the law says of conjugators -/
theorem cj_law {w z : List Nat} (hw : Rd w) (hz : Rd z) (h0 : w ≠ []) : ∃ eW eM core t p, IsE w eW ∧ IsE (red (z ++ w ++ iv z)) eM ∧ 1 ≤ core ∧ w.length = 2 * eW + core ∧ (red (z ++ w ++ iv z)).length = 2 * eM + core ∧ IsT (red (z ++ w ++ iv z)) eM w eW core t ∧ IsP w eW core p ∧ t < p ∧
    ∀ K1 K2, K1 = red (seg (gd (red (z ++ w ++ iv z))) 0 eM ++ iv (seg (gd w) eW t) ++ iv (seg (gd w) 0 eW)) → K2 = red (seg (gd (red (z ++ w ++ iv z))) 0 eM ++ seg (gd w) (eW + t) (p - t) ++ iv (seg (gd w) 0 eW)) →
      fo (frst K1 K2) z ≤ 0 ∧ red (frst K1 K2 ++ w ++ iv (frst K1 K2)) = red (z ++ w ++ iv z) := by
  obtain ⟨eW, hE⟩ := IsE_ex w
  have hc := IsE_core hw hE h0
  obtain ⟨n, hn⟩ : ∃ n, w.length = 2 * eW + (n + 1) := ⟨w.length - 2 * eW - 1, by omega⟩
  have hR := rnd_Rnd hw hE hn
  have hp := rnd_per w eW n
  have hs := cj_split hE hn
  have hu : Rd (cj_w (rnd w eW n) n (seg (gd w) 0 eW) 0) := by rw [← hs]; exact hw
  obtain ⟨v, s, e1, e2, e3⟩ := cj_best hR hp hu hz
  obtain ⟨t, ht⟩ := Tn_ex hp s
  obtain ⟨p, hd⟩ := Pd_ex hp
  have htp := Tn_lt ht hd
  have hpn : p ≤ n + 1 := Nat.le_of_dvd (by omega) hd.2.1
  rw [← hs] at e1
  rw [e1]
  refine ⟨eW, v.length, n + 1, t, p, hE, cj_IsE hR hp v, by omega, hn, cj_len _ _ _ _, IsT_Tn ht, IsP_Pd hd, htp, ?_⟩
  intro K1 K2 h1 h2
  have hv : seg (gd (cj_w (rnd w eW n) n v s)) 0 v.length = v := gd_ext (seg_len _ _ _) fun i hi => by
    rw [seg_len] at hi
    rw [gd_seg hi, Nat.zero_add, cj_pre hi]
  have h3 : seg (gd w) eW t = seg (rnd w eW n) 0 t := seg_cong fun i hi => by rw [Nat.zero_add, rnd_lt (by omega)]
  have h4 : seg (gd w) (eW + t) (p - t) = seg (rnd w eW n) t (p - t) := seg_cong fun i hi => by rw [rnd_lt (by omega), Nat.add_assoc]
  rw [hv, h3] at h1
  rw [hv, h4] at h2
  have h5 := e3 t p ht hd
  rw [← h1, ← h2] at h5
  refine ⟨frst_le h5, ?_⟩
  have k1 : red (K1 ++ w ++ iv K1) = cj_w (rnd w eW n) n v s := by
    have h6 := cj_one hp e2 ht (K := K1) (by rw [h1]; exact eqv_red _)
    rw [← hs] at h6
    exact h6
  have k2 : red (K2 ++ w ++ iv K2) = cj_w (rnd w eW n) n v s := by
    have h6 := cj_two hp e2 ht hd (K := K2) (by rw [h2]; exact eqv_red _)
    rw [← hs] at h6
    exact h6
  unfold frst
  split
  · exact k2
  · exact k1
