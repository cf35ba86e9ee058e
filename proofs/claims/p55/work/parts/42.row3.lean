theorem lx_step {xs ys : List Nat} {i : Nat} (h : i < xs.length) (h2 : i < ys.length) : lx (xs.drop i) (ys.drop i) = if gd xs i < gd ys i then -1 else if gd ys i < gd xs i then 1 else lx (xs.drop (i + 1)) (ys.drop (i + 1)) := by
  have e1 : xs.drop i = gd xs i :: xs.drop (i + 1) := by
    rw [List.drop_eq_getElem_cons h]
    congr 1
    exact (gd_some (List.getElem?_eq_getElem h)).symm
  have e2 : ys.drop i = gd ys i :: ys.drop (i + 1) := by
    rw [List.drop_eq_getElem_cons h2]
    congr 1
    exact (gd_some (List.getElem?_eq_getElem h2)).symm
  rw [e1, e2]; rfl
theorem lx_end {xs ys : List Nat} {i : Nat} (h : xs.length ≤ i) : lx (xs.drop i) (ys.drop i) = 0 := by
  rw [List.drop_eq_nil_of_le h]
  cases ys.drop i <;> rfl
theorem fo_same {xs ys : List Nat} (h : xs.length = ys.length) : fo xs ys = lx xs ys := by
  unfold fo; rw [if_neg (by omega), if_neg (by omega)]
/-- how often a letter stands there, its inverse taken off -/
def smn (xs : List Nat) (a : Nat) : Nat → Int32
  | 0 => 0
  | i + 1 => smn xs a i + (if gd xs i = a then 1 else if gd xs i = fv a then -1 else 0)
/-- the place across lies behind -/
theorem fx_cs {n i : Nat} (h : 2 * i ≤ n) (hn : n < 2 ^ 30) : nI n - nI 1 - nI i ≤ nI i ↔ ¬ 2 * i + 1 < n := by
  rcases Nat.eq_zero_or_pos n with h0 | h0
  · have : i = 0 := by omega
    subst this; subst h0
    exact ⟨fun _ => by omega, fun _ => by decide⟩
  · rw [pk_sub (by omega), pk_sub (by omega), nI_leI (by omega) (by omega)]
    omega
theorem fx_up (i : Nat) : nI (i + 1) - nI 1 = nI i := by rw [pk_sub (by omega)]; rfl
theorem fx_n0 {n : Nat} (h0 : 0 < n) (h : n < 2 ^ 31) : ¬ nI n = 0 := nI_ne0 h0 h
set_option maxRecDepth 100000 in
theorem fin_X7_orderTo_RX7 : ∀ w ∈ u_ws RX7 TX7 2, w ∈ wsX7_orderTo := by decide +kernel
set_option maxHeartbeats 4000000 in
set_option maxRecDepth 100000 in
/-- orderTo: by length, then by the first letter that differs -/
theorem c_X7_orderTo {l : Launch} {G : va_G} {cy : Nat → ClassId} {r lt R r2 lt2 R2 : Nat} {xs ys : List Nat} {f g : Nat → Int32} (hR : R < 2 ^ 20) (hR2 : R2 < 2 ^ 20) (h6 : L6 xs) (hy6 : L6 ys) (hf : Hd f xs) (hg : Hd g ys) (hxR : xs.length ≤ R) (hyR : ys.length ≤ R2) : Ki l yX7_orderTo wsX7_orderTo G cy [.ref r, .ref r2] [(r, .inr (9, [.ref lt, .int (nI xs.length)])), (lt, .inl (cy 0, R, .inl f)), (r2, .inr (9, [.ref lt2, .int (nI ys.length)])), (lt2, .inl (cy 0, R2, .inl g))] (fun (v : Int32) (_ : Unit) => v = fo xs ys) (fun _ => [(r, .inr (9, [.ref lt, .int (nI xs.length)])), (lt, .inl (cy 0, R, .inl f)), (r2, .inr (9, [.ref lt2, .int (nI ys.length)])), (lt2, .inl (cy 0, R2, .inl g))]) 0 0 0 0 := by
  refine Ki_of (cc := cX7_orderTo) (nL := 3) (by decide) rfl (Nat.le_of_ble_eq_true rfl) ?_
  intro p e s m args below meth c A C hnm
  refine j_lo (lo1 := [(0, .ref r), (1, .ref r2)]) [0, 1] rfl ?_
  refine j_aload_n C rfl 0 rfl dX7_orderTo_0 ?_
  refine j_getf C (Cn := RX7) (T := TX7) (N := 2) fin_X7_orderTo_RX7 0 rfl rfl 1 (by decide) (by decide +kernel) rfl dX7_orderTo_1 ?_
  refine j_aload_n C rfl 1 rfl dX7_orderTo_4 ?_
  refine j_getf C (Cn := RX7) (T := TX7) (N := 2) fin_X7_orderTo_RX7 2 rfl rfl 1 (by decide) (by decide +kernel) rfl dX7_orderTo_5 ?_
  refine j_icmp_eq C (P := xs.length = ys.length) (nI_eq (by omega) (by omega)) (tgt := 28) (by decide) dX7_orderTo_8 (fun hE => ?_) (fun hNE => ?_)
  · have lp : ∀ (d9 : Nat) (i : Nat), xs.length - i < d9 → (i ≤ xs.length ∧ lx xs ys = lx (xs.drop i) (ys.drop i)) → J p l e (fz_rm 0 0 0 0) s m args below meth c (MQ below (va_Qi (fun (v : Int32) (_ : Unit) => v = fo xs ys) (fz_B G (fun _ => [(r, .inr (9, [.ref lt, .int (nI xs.length)])), (lt, .inl (cy 0, R, .inl f)), (r2, .inr (9, [.ref lt2, .int (nI ys.length)])), (lt2, .inl (cy 0, R2, .inl g))]) A) A) args s 0 0 A) G A 3 [(r, .inr (9, [.ref lt, .int (nI xs.length)])), (lt, .inl (cy 0, R, .inl f)), (r2, .inr (9, [.ref lt2, .int (nI ys.length)])), (lt2, .inl (cy 0, R2, .inl g))] 0 0 30 [(2, .int (nI i)), (0, .ref r), (1, .ref r2)] [] := by
      intro d9
      induction d9 with
      | zero => intro i hd9; exact absurd hd9 (Nat.not_lt_zero _)
      | succ d9 ih =>
        intro i hd9 hi
        refine j_iload_n C rfl 0 rfl dX7_orderTo_30 ?_
        refine j_aload_n C rfl 1 rfl dX7_orderTo_31 ?_
        refine j_getf C (Cn := RX7) (T := TX7) (N := 2) fin_X7_orderTo_RX7 0 rfl rfl 1 (by decide) (by decide +kernel) rfl dX7_orderTo_32 ?_
        refine j_icmp_ge C (P := xs.length ≤ i) (nI_leI (by omega) (by omega)) (tgt := 80) (by decide) dX7_orderTo_35 (fun ht => ?_) (fun hq => ?_)
        · refine j_iconst C (v := (nI 0)) (by decide +kernel) dX7_orderTo_80 ?_
          exact j_iret C rfl (rfl) (()) (by rw [fo_same hE, hi.2, lx_end (by omega)]; rfl) [0, 1, 2, 3] rfl (by decide) (Nat.le_of_ble_eq_true rfl) (Nat.le_of_ble_eq_true rfl) dX7_orderTo_81
        · have hls := lx_step (xs := xs) (ys := ys) (i := i) (by omega) (by omega)
          have l1 := h6 i (by omega)
          have l2 := hy6 i (by omega)
          refine j_aload_n C rfl 1 rfl dX7_orderTo_38 ?_
          refine j_getf C (Cn := RX7) (T := TX7) (N := 2) fin_X7_orderTo_RX7 0 rfl rfl 0 (by decide) (by decide +kernel) rfl dX7_orderTo_39 ?_
          refine j_iload_n C rfl 0 rfl dX7_orderTo_42 ?_
          refine j_bald C 1 rfl (j := i) (by omega) (by omega) (v := (nI (gd xs i))) (hf i (by omega)) dX7_orderTo_43 ?_
          refine j_aload_n C rfl 2 rfl dX7_orderTo_44 ?_
          refine j_getf C (Cn := RX7) (T := TX7) (N := 2) fin_X7_orderTo_RX7 2 rfl rfl 0 (by decide) (by decide +kernel) rfl dX7_orderTo_45 ?_
          refine j_iload_n C rfl 0 rfl dX7_orderTo_48 ?_
          refine j_bald C 3 rfl (j := i) (by omega) (by omega) (v := (nI (gd ys i))) (hg i (by omega)) dX7_orderTo_49 ?_
          refine j_icmp_eq C (P := gd xs i = gd ys i) (nI_eq (by omega) (by omega)) (tgt := 74) (by decide) dX7_orderTo_50 (fun hc => ?_) (fun hd => ?_)
          · rw [hc, if_neg (Nat.lt_irrefl _), if_neg (Nat.lt_irrefl _)] at hls
            refine j_iinc C (v := (nI (i + 1))) (lo1 := [(2, .int (nI (i + 1))), (0, .ref r), (1, .ref r2)]) 0 rfl (fx_inc i 1) (by decide) rfl dX7_orderTo_74 ?_
            refine j_goto C (tgt := 30) (by decide) dX7_orderTo_77 ?_
            refine j_lo (lo1 := [(2, .int (nI (i + 1))), (0, .ref r), (1, .ref r2)]) [0, 1, 2] rfl ?_
            exact ih (i + 1) (by omega) ⟨by omega, by rw [hi.2, hls]⟩
          · refine j_aload_n C rfl 1 rfl dX7_orderTo_53 ?_
            refine j_getf C (Cn := RX7) (T := TX7) (N := 2) fin_X7_orderTo_RX7 0 rfl rfl 0 (by decide) (by decide +kernel) rfl dX7_orderTo_54 ?_
            refine j_iload_n C rfl 0 rfl dX7_orderTo_57 ?_
            refine j_bald C 1 rfl (j := i) (by omega) (by omega) (v := (nI (gd xs i))) (hf i (by omega)) dX7_orderTo_58 ?_
            refine j_aload_n C rfl 2 rfl dX7_orderTo_59 ?_
            refine j_getf C (Cn := RX7) (T := TX7) (N := 2) fin_X7_orderTo_RX7 2 rfl rfl 0 (by decide) (by decide +kernel) rfl dX7_orderTo_60 ?_
            refine j_iload_n C rfl 0 rfl dX7_orderTo_63 ?_
            refine j_bald C 3 rfl (j := i) (by omega) (by omega) (v := (nI (gd ys i))) (hg i (by omega)) dX7_orderTo_64 ?_
            refine j_icmp_ge C (P := gd ys i ≤ gd xs i) (nI_leI (by omega) (by omega)) (tgt := 72) (by decide) dX7_orderTo_65 (fun hg1 => ?_) (fun hl1 => ?_)
            · refine j_iconst C (v := (nI 1)) (by decide +kernel) dX7_orderTo_72 ?_
              exact j_iret C rfl (rfl) (()) (by rw [fo_same hE, hi.2, hls, if_neg (by omega), if_pos (by omega)]; rfl) [0, 1, 2, 3] rfl (by decide) (Nat.le_of_ble_eq_true rfl) (Nat.le_of_ble_eq_true rfl) dX7_orderTo_73
            · refine j_iconst C (v := (-1)) (by decide +kernel) dX7_orderTo_68 ?_
              refine j_goto C (tgt := 73) (by decide) dX7_orderTo_69 ?_
              exact j_iret C rfl (rfl) (()) (by rw [fo_same hE, hi.2, hls, if_pos (by omega)]) [0, 1, 2, 3] rfl (by decide) (Nat.le_of_ble_eq_true rfl) (Nat.le_of_ble_eq_true rfl) dX7_orderTo_73
    refine j_iconst C (v := (nI 0)) (by decide +kernel) dX7_orderTo_28 ?_
    refine j_istore_n C (lo1 := [(2, .int (nI 0)), (0, .ref r), (1, .ref r2)]) rfl (by decide) rfl dX7_orderTo_29 ?_
    refine j_lo (lo1 := [(2, .int (nI 0)), (0, .ref r), (1, .ref r2)]) [0, 1, 2] rfl ?_
    exact lp (xs.length + 1) 0 (by omega) ⟨by omega, rfl⟩
  · refine j_aload_n C rfl 0 rfl dX7_orderTo_11 ?_
    refine j_getf C (Cn := RX7) (T := TX7) (N := 2) fin_X7_orderTo_RX7 0 rfl rfl 1 (by decide) (by decide +kernel) rfl dX7_orderTo_12 ?_
    refine j_aload_n C rfl 1 rfl dX7_orderTo_15 ?_
    refine j_getf C (Cn := RX7) (T := TX7) (N := 2) fin_X7_orderTo_RX7 2 rfl rfl 1 (by decide) (by decide +kernel) rfl dX7_orderTo_16 ?_
    refine j_icmp_ge C (P := ys.length ≤ xs.length) (nI_leI (by omega) (by omega)) (tgt := 26) (by decide) dX7_orderTo_19 (fun hg1 => ?_) (fun hl1 => ?_)
    · refine j_iconst C (v := (nI 1)) (by decide +kernel) dX7_orderTo_26 ?_
      exact j_iret C rfl (rfl) (()) (by unfold fo; rw [if_neg (by omega), if_pos (by omega)]; rfl) [0, 1, 2, 3] rfl (by decide) (Nat.le_of_ble_eq_true rfl) (Nat.le_of_ble_eq_true rfl) dX7_orderTo_27
    · refine j_iconst C (v := (-1)) (by decide +kernel) dX7_orderTo_22 ?_
      refine j_goto C (tgt := 27) (by decide) dX7_orderTo_23 ?_
      exact j_iret C rfl (rfl) (()) (by unfold fo; rw [if_pos (by omega)]) [0, 1, 2, 3] rfl (by decide) (Nat.le_of_ble_eq_true rfl) (Nat.le_of_ble_eq_true rfl) dX7_orderTo_27
set_option maxHeartbeats 4000000 in
set_option maxRecDepth 100000 in
/-- orderTo: a row with itself -/
theorem c_X7_orderTo0 {l : Launch} {G : va_G} {cy : Nat → ClassId} {r lt R : Nat} {xs : List Nat} {f : Nat → Int32} (hR : R < 2 ^ 20) (h6 : L6 xs) (hf : Hd f xs) (hxR : xs.length ≤ R)  : Ki l yX7_orderTo wsX7_orderTo G cy [.ref r, .ref r] [(r, .inr (9, [.ref lt, .int (nI xs.length)])), (lt, .inl (cy 0, R, .inl f))] (fun (v : Int32) (_ : Unit) => v = 0) (fun _ => [(r, .inr (9, [.ref lt, .int (nI xs.length)])), (lt, .inl (cy 0, R, .inl f))]) 0 0 0 0 := by
  refine Ki_of (cc := cX7_orderTo) (nL := 3) (by decide) rfl (Nat.le_of_ble_eq_true rfl) ?_
  intro p e s m args below meth c A C hnm
  refine j_lo (lo1 := [(0, .ref r), (1, .ref r)]) [0, 1] rfl ?_
  refine j_aload_n C rfl 0 rfl dX7_orderTo_0 ?_
  refine j_getf C (Cn := RX7) (T := TX7) (N := 2) fin_X7_orderTo_RX7 0 rfl rfl 1 (by decide) (by decide +kernel) rfl dX7_orderTo_1 ?_
  refine j_aload_n C rfl 1 rfl dX7_orderTo_4 ?_
  refine j_getf C (Cn := RX7) (T := TX7) (N := 2) fin_X7_orderTo_RX7 0 rfl rfl 1 (by decide) (by decide +kernel) rfl dX7_orderTo_5 ?_
  refine j_icmp_eq C (P := xs.length = xs.length) (nI_eq (by omega) (by omega)) (tgt := 28) (by decide) dX7_orderTo_8 (fun ht => ?_) (fun hq => ?_)
  · have lp : ∀ (d9 : Nat) (i : Nat), xs.length - i < d9 → (i ≤ xs.length) → J p l e (fz_rm 0 0 0 0) s m args below meth c (MQ below (va_Qi (fun (v : Int32) (_ : Unit) => v = 0) (fz_B G (fun _ => [(r, .inr (9, [.ref lt, .int (nI xs.length)])), (lt, .inl (cy 0, R, .inl f))]) A) A) args s 0 0 A) G A 3 [(r, .inr (9, [.ref lt, .int (nI xs.length)])), (lt, .inl (cy 0, R, .inl f))] 0 0 30 [(2, .int (nI i)), (0, .ref r), (1, .ref r)] [] := by
      intro d9
      induction d9 with
      | zero => intro i hd9; exact absurd hd9 (Nat.not_lt_zero _)
      | succ d9 ih =>
        intro i hd9 hi
        refine j_iload_n C rfl 0 rfl dX7_orderTo_30 ?_
        refine j_aload_n C rfl 1 rfl dX7_orderTo_31 ?_
        refine j_getf C (Cn := RX7) (T := TX7) (N := 2) fin_X7_orderTo_RX7 0 rfl rfl 1 (by decide) (by decide +kernel) rfl dX7_orderTo_32 ?_
        refine j_icmp_ge C (P := xs.length ≤ i) (nI_leI (by omega) (by omega)) (tgt := 80) (by decide) dX7_orderTo_35 (fun ha => ?_) (fun hb => ?_)
        · refine j_iconst C (v := (nI 0)) (by decide +kernel) dX7_orderTo_80 ?_
          exact j_iret C rfl (rfl) (()) (rfl) [0, 1] rfl (by decide) (Nat.le_of_ble_eq_true rfl) (Nat.le_of_ble_eq_true rfl) dX7_orderTo_81
        · have l1 := h6 i (by omega)
          refine j_aload_n C rfl 1 rfl dX7_orderTo_38 ?_
          refine j_getf C (Cn := RX7) (T := TX7) (N := 2) fin_X7_orderTo_RX7 0 rfl rfl 0 (by decide) (by decide +kernel) rfl dX7_orderTo_39 ?_
          refine j_iload_n C rfl 0 rfl dX7_orderTo_42 ?_
          refine j_bald C 1 rfl (j := i) (by omega) (by omega) (v := (nI (gd xs i))) (hf i (by omega)) dX7_orderTo_43 ?_
          refine j_aload_n C rfl 2 rfl dX7_orderTo_44 ?_
          refine j_getf C (Cn := RX7) (T := TX7) (N := 2) fin_X7_orderTo_RX7 0 rfl rfl 0 (by decide) (by decide +kernel) rfl dX7_orderTo_45 ?_
          refine j_iload_n C rfl 0 rfl dX7_orderTo_48 ?_
          refine j_bald C 1 rfl (j := i) (by omega) (by omega) (v := (nI (gd xs i))) (hf i (by omega)) dX7_orderTo_49 ?_
          refine j_icmp_eq C (P := gd xs i = gd xs i) (nI_eq (by omega) (by omega)) (tgt := 74) (by decide) dX7_orderTo_50 (fun hc => ?_) (fun hd => absurd hd (by omega))
          refine j_iinc C (v := (nI (i + 1))) (lo1 := [(2, .int (nI (i + 1))), (0, .ref r), (1, .ref r)]) 0 rfl (fx_inc i 1) (by decide) rfl dX7_orderTo_74 ?_
          refine j_goto C (tgt := 30) (by decide) dX7_orderTo_77 ?_
          refine j_lo (lo1 := [(2, .int (nI (i + 1))), (0, .ref r), (1, .ref r)]) [0, 1, 2] rfl ?_
          exact ih (i + 1) (by omega) (by omega)
    refine j_iconst C (v := (nI 0)) (by decide +kernel) dX7_orderTo_28 ?_
    refine j_istore_n C (lo1 := [(2, .int (nI 0)), (0, .ref r), (1, .ref r)]) rfl (by decide) rfl dX7_orderTo_29 ?_
    refine j_lo (lo1 := [(2, .int (nI 0)), (0, .ref r), (1, .ref r)]) [0, 1, 2] rfl ?_
    exact lp (xs.length + 1) 0 (by omega) (by omega)
  · exact absurd rfl hq
set_option maxRecDepth 100000 in
theorem fin_X7_sumOf_RX7 : ∀ w ∈ u_ws RX7 TX7 2, w ∈ wsX7_sumOf := by decide +kernel
set_option maxHeartbeats 4000000 in
set_option maxRecDepth 100000 in
/-- sumOf -/
theorem c_X7_sumOf {l : Launch} {G : va_G} {cy : Nat → ClassId} {r lt R a : Nat} {xs : List Nat} {f : Nat → Int32} (hR : R < 2 ^ 20) (ha : a < 6) (h6 : L6 xs) (hf : Hd f xs) (hxR : xs.length ≤ R)  : Ki l yX7_sumOf wsX7_sumOf G cy [.ref r, .int (nI a)] [(r, .inr (9, [.ref lt, .int (nI xs.length)])), (lt, .inl (cy 0, R, .inl f))] (fun (v : Int32) (_ : Unit) => v = smn xs a xs.length) (fun _ => [(r, .inr (9, [.ref lt, .int (nI xs.length)])), (lt, .inl (cy 0, R, .inl f))]) 0 0 0 0 := by
  refine Ki_of (cc := cX7_sumOf) (nL := 4) (by decide) rfl (Nat.le_of_ble_eq_true rfl) ?_
  intro p e s m args below meth c A C hnm
  refine j_lo (lo1 := [(0, .ref r), (1, .int (nI a))]) [0, 1] rfl ?_
  have lp : ∀ (d9 : Nat) (i : Nat), xs.length - i < d9 → (i ≤ xs.length) → J p l e (fz_rm 0 0 0 0) s m args below meth c (MQ below (va_Qi (fun (v : Int32) (_ : Unit) => v = smn xs a xs.length) (fz_B G (fun _ => [(r, .inr (9, [.ref lt, .int (nI xs.length)])), (lt, .inl (cy 0, R, .inl f))]) A) A) args s 0 0 A) G A 4 [(r, .inr (9, [.ref lt, .int (nI xs.length)])), (lt, .inl (cy 0, R, .inl f))] 0 0 4 [(3, .int (nI i)), (2, .int (smn xs a i)), (0, .ref r), (1, .int (nI a))] [] := by
    intro d9
    induction d9 with
    | zero => intro i hd9; exact absurd hd9 (Nat.not_lt_zero _)
    | succ d9 ih =>
      intro i hd9 hi
      refine j_iload_n C rfl 0 rfl dX7_sumOf_4 ?_
      refine j_aload_n C rfl 2 rfl dX7_sumOf_5 ?_
      refine j_getf C (Cn := RX7) (T := TX7) (N := 2) fin_X7_sumOf_RX7 0 rfl rfl 1 (by decide) (by decide +kernel) rfl dX7_sumOf_6 ?_
      refine j_icmp_ge C (P := xs.length ≤ i) (nI_leI (by omega) (by omega)) (tgt := 49) (by decide) dX7_sumOf_9 (fun ht => ?_) (fun hq => ?_)
      · have hi9 : i = xs.length := by omega
        subst hi9
        refine j_iload_n C rfl 1 rfl dX7_sumOf_49 ?_
        exact j_iret C rfl (rfl) (()) (rfl) [0, 1] rfl (by decide) (Nat.le_of_ble_eq_true rfl) (Nat.le_of_ble_eq_true rfl) dX7_sumOf_50
      · have l1 := h6 i (by omega)
        have hfv := fv_lt a ha
        refine j_aload_n C rfl 2 rfl dX7_sumOf_12 ?_
        refine j_getf C (Cn := RX7) (T := TX7) (N := 2) fin_X7_sumOf_RX7 0 rfl rfl 0 (by decide) (by decide +kernel) rfl dX7_sumOf_13 ?_
        refine j_iload_n C rfl 0 rfl dX7_sumOf_16 ?_
        refine j_bald C 1 rfl (j := i) (by omega) (by omega) (v := (nI (gd xs i))) (hf i (by omega)) dX7_sumOf_17 ?_
        refine j_iload_n C rfl 3 rfl dX7_sumOf_18 ?_
        refine j_icmp_ne C (P := gd xs i = a) (nI_eq (by omega) (by omega)) (tgt := 28) (by decide) dX7_sumOf_19 (fun hn => ?_) (fun he => ?_)
        · refine j_aload_n C rfl 2 rfl dX7_sumOf_28 ?_
          refine j_getf C (Cn := RX7) (T := TX7) (N := 2) fin_X7_sumOf_RX7 0 rfl rfl 0 (by decide) (by decide +kernel) rfl dX7_sumOf_29 ?_
          refine j_iload_n C rfl 0 rfl dX7_sumOf_32 ?_
          refine j_bald C 1 rfl (j := i) (by omega) (by omega) (v := (nI (gd xs i))) (hf i (by omega)) dX7_sumOf_33 ?_
          refine j_iload_n C rfl 3 rfl dX7_sumOf_34 ?_
          refine j_iconst C (v := (nI 1)) (by decide +kernel) dX7_sumOf_35 ?_
          refine j_ixor C (v := (nI (fv a))) (fx_fv a) dX7_sumOf_36 ?_
          refine j_icmp_ne C (P := gd xs i = fv a) (nI_eq (by omega) (by omega)) (tgt := 43) (by decide) dX7_sumOf_37 (fun hn2 => ?_) (fun he2 => ?_)
          · refine j_leq (lo1 := [(3, .int (nI i)), (2, .int (smn xs a (i + 1))), (0, .ref r), (1, .int (nI a))]) (by rw [smn, if_neg hn, if_neg hn2, Int32.add_zero]) ?_
            refine j_iinc C (v := (nI (i + 1))) (lo1 := [(3, .int (nI (i + 1))), (2, .int (smn xs a (i + 1))), (0, .ref r), (1, .int (nI a))]) 0 rfl (fx_inc i 1) (by decide) rfl dX7_sumOf_43 ?_
            refine j_goto C (tgt := 4) (by decide) dX7_sumOf_46 ?_
            refine j_lo (lo1 := [(3, .int (nI (i + 1))), (2, .int (smn xs a (i + 1))), (0, .ref r), (1, .int (nI a))]) [0, 1, 2, 3] rfl ?_
            exact ih (i + 1) (by omega) (by omega)
          · refine j_iinc C (v := (smn xs a (i + 1))) (lo1 := [(2, .int (smn xs a (i + 1))), (3, .int (nI i)), (0, .ref r), (1, .int (nI a))]) 1 rfl (by rw [smn, if_neg hn, if_pos he2]; rfl) (by decide) rfl dX7_sumOf_40 ?_
            refine j_iinc C (v := (nI (i + 1))) (lo1 := [(3, .int (nI (i + 1))), (2, .int (smn xs a (i + 1))), (0, .ref r), (1, .int (nI a))]) 1 rfl (fx_inc i 1) (by decide) rfl dX7_sumOf_43 ?_
            refine j_goto C (tgt := 4) (by decide) dX7_sumOf_46 ?_
            refine j_lo (lo1 := [(3, .int (nI (i + 1))), (2, .int (smn xs a (i + 1))), (0, .ref r), (1, .int (nI a))]) [0, 1, 2, 3] rfl ?_
            exact ih (i + 1) (by omega) (by omega)
        · refine j_iinc C (v := (smn xs a (i + 1))) (lo1 := [(2, .int (smn xs a (i + 1))), (3, .int (nI i)), (0, .ref r), (1, .int (nI a))]) 1 rfl (by rw [smn, if_pos he]; rfl) (by decide) rfl dX7_sumOf_22 ?_
          refine j_goto C (tgt := 43) (by decide) dX7_sumOf_25 ?_
          refine j_iinc C (v := (nI (i + 1))) (lo1 := [(3, .int (nI (i + 1))), (2, .int (smn xs a (i + 1))), (0, .ref r), (1, .int (nI a))]) 1 rfl (fx_inc i 1) (by decide) rfl dX7_sumOf_43 ?_
          refine j_goto C (tgt := 4) (by decide) dX7_sumOf_46 ?_
          refine j_lo (lo1 := [(3, .int (nI (i + 1))), (2, .int (smn xs a (i + 1))), (0, .ref r), (1, .int (nI a))]) [0, 1, 2, 3] rfl ?_
          exact ih (i + 1) (by omega) (by omega)
  refine j_iconst C (v := (nI 0)) (by decide +kernel) dX7_sumOf_0 ?_
  refine j_istore_n C (lo1 := [(2, .int (nI 0)), (0, .ref r), (1, .int (nI a))]) rfl (by decide) rfl dX7_sumOf_1 ?_
  refine j_iconst C (v := (nI 0)) (by decide +kernel) dX7_sumOf_2 ?_
  refine j_istore_n C (lo1 := [(3, .int (nI 0)), (2, .int (nI 0)), (0, .ref r), (1, .int (nI a))]) rfl (by decide) rfl dX7_sumOf_3 ?_
  refine j_lo (lo1 := [(3, .int (nI 0)), (2, .int (nI 0)), (0, .ref r), (1, .int (nI a))]) [0, 1, 2, 3] rfl ?_
  exact lp (xs.length + 1) 0 (by omega) (by omega)
set_option maxRecDepth 100000 in
theorem fin_X7_isCancelled_RX7 : ∀ w ∈ u_ws RX7 TX7 2, w ∈ wsX7_isCancelled := by decide +kernel
set_option maxHeartbeats 4000000 in
set_option maxRecDepth 100000 in
/-- isCancelled, of a row that is -/
theorem c_X7_isCancelled {l : Launch} {G : va_G} {cy : Nat → ClassId} {r lt R : Nat} {xs : List Nat} {f : Nat → Int32} (hR : R < 2 ^ 20) (hr : Rd xs) (h6 : L6 xs) (hf : Hd f xs) (hxR : xs.length ≤ R)  : Ki l yX7_isCancelled wsX7_isCancelled G cy [.ref r] [(r, .inr (9, [.ref lt, .int (nI xs.length)])), (lt, .inl (cy 0, R, .inl f))] (fun (v : Int32) (_ : Unit) => v = 1) (fun _ => [(r, .inr (9, [.ref lt, .int (nI xs.length)])), (lt, .inl (cy 0, R, .inl f))]) 0 0 0 0 := by
  refine Ki_of (cc := cX7_isCancelled) (nL := 2) (by decide) rfl (Nat.le_of_ble_eq_true rfl) ?_
  intro p e s m args below meth c A C hnm
  refine j_lo (lo1 := [(0, .ref r)]) [0] rfl ?_
  have lp : ∀ (d9 : Nat) (i : Nat), xs.length - i < d9 → (i ≤ xs.length) → J p l e (fz_rm 0 0 0 0) s m args below meth c (MQ below (va_Qi (fun (v : Int32) (_ : Unit) => v = 1) (fz_B G (fun _ => [(r, .inr (9, [.ref lt, .int (nI xs.length)])), (lt, .inl (cy 0, R, .inl f))]) A) A) args s 0 0 A) G A 2 [(r, .inr (9, [.ref lt, .int (nI xs.length)])), (lt, .inl (cy 0, R, .inl f))] 0 0 2 [(1, .int (nI (i + 1))), (0, .ref r)] [] := by
    intro d9
    induction d9 with
    | zero => intro i hd9; exact absurd hd9 (Nat.not_lt_zero _)
    | succ d9 ih =>
      intro i hd9 hi
      refine j_iload_n C rfl 0 rfl dX7_isCancelled_2 ?_
      refine j_aload_n C rfl 1 rfl dX7_isCancelled_3 ?_
      refine j_getf C (Cn := RX7) (T := TX7) (N := 2) fin_X7_isCancelled_RX7 0 rfl rfl 1 (by decide) (by decide +kernel) rfl dX7_isCancelled_4 ?_
      refine j_icmp_ge C (P := xs.length ≤ i + 1) (nI_leI (by omega) (by omega)) (tgt := 37) (by decide) dX7_isCancelled_7 (fun ht => ?_) (fun hq => ?_)
      · refine j_iconst C (v := (nI 1)) (by decide +kernel) dX7_isCancelled_37 ?_
        exact j_iret C rfl (rfl) (()) (rfl) [0, 1] rfl (by decide) (Nat.le_of_ble_eq_true rfl) (Nat.le_of_ble_eq_true rfl) dX7_isCancelled_38
      · have l1 := h6 i (by omega)
        have l2 := fv_lt _ (h6 (i + 1) (by omega))
        have hne := Rd_at hr i (by omega)
        refine j_aload_n C rfl 1 rfl dX7_isCancelled_10 ?_
        refine j_getf C (Cn := RX7) (T := TX7) (N := 2) fin_X7_isCancelled_RX7 0 rfl rfl 0 (by decide) (by decide +kernel) rfl dX7_isCancelled_11 ?_
        refine j_iload_n C rfl 0 rfl dX7_isCancelled_14 ?_
        refine j_iconst C (v := (nI 1)) (by decide +kernel) dX7_isCancelled_15 ?_
        refine j_isub C (v := (nI i)) (fx_up i) dX7_isCancelled_16 ?_
        refine j_bald C 1 rfl (j := i) (by omega) (by omega) (v := (nI (gd xs i))) (hf i (by omega)) dX7_isCancelled_17 ?_
        refine j_aload_n C rfl 1 rfl dX7_isCancelled_18 ?_
        refine j_getf C (Cn := RX7) (T := TX7) (N := 2) fin_X7_isCancelled_RX7 0 rfl rfl 0 (by decide) (by decide +kernel) rfl dX7_isCancelled_19 ?_
        refine j_iload_n C rfl 0 rfl dX7_isCancelled_22 ?_
        refine j_bald C 1 rfl (j := i + 1) (by omega) (by omega) (v := (nI (gd xs (i + 1)))) (hf (i + 1) (by omega)) dX7_isCancelled_23 ?_
        refine j_iconst C (v := (nI 1)) (by decide +kernel) dX7_isCancelled_24 ?_
        refine j_ixor C (v := (nI (fv (gd xs (i + 1))))) (fx_fv (gd xs (i + 1))) dX7_isCancelled_25 ?_
        refine j_icmp_ne C (P := gd xs i = fv (gd xs (i + 1))) (nI_eq (by omega) (by omega)) (tgt := 31) (by decide) dX7_isCancelled_26 (fun hn => ?_) (fun he => absurd he (hne))
        refine j_iinc C (v := (nI (i + 1 + 1))) (lo1 := [(1, .int (nI (i + 1 + 1))), (0, .ref r)]) 0 rfl (fx_inc (i + 1) 1) (by decide) rfl dX7_isCancelled_31 ?_
        refine j_goto C (tgt := 2) (by decide) dX7_isCancelled_34 ?_
        refine j_lo (lo1 := [(1, .int (nI (i + 1 + 1))), (0, .ref r)]) [0, 1] rfl ?_
        exact ih (i + 1) (by omega) (by omega)
  refine j_iconst C (v := (nI 1)) (by decide +kernel) dX7_isCancelled_0 ?_
  refine j_istore_n C (lo1 := [(1, .int (nI 1)), (0, .ref r)]) rfl (by decide) rfl dX7_isCancelled_1 ?_
  refine j_lo (lo1 := [(1, .int (nI 1)), (0, .ref r)]) [0, 1] rfl ?_
  exact lp (xs.length + 1) 0 (by omega) (by omega)
set_option maxRecDepth 100000 in
theorem fin_X7_coreStart_RX7 : ∀ w ∈ u_ws RX7 TX7 2, w ∈ wsX7_coreStart := by decide +kernel
set_option maxHeartbeats 4000000 in
set_option maxRecDepth 100000 in
/-- coreStart -/
theorem c_X7_coreStart {l : Launch} {G : va_G} {cy : Nat → ClassId} {r lt R e9 : Nat} {xs : List Nat} {f : Nat → Int32} (hR : R < 2 ^ 20) (he : IsE xs e9) (h6 : L6 xs) (hf : Hd f xs) (hxR : xs.length ≤ R)  : Ki l yX7_coreStart wsX7_coreStart G cy [.ref r] [(r, .inr (9, [.ref lt, .int (nI xs.length)])), (lt, .inl (cy 0, R, .inl f))] (fun (v : Int32) (_ : Unit) => v = nI e9) (fun _ => [(r, .inr (9, [.ref lt, .int (nI xs.length)])), (lt, .inl (cy 0, R, .inl f))]) 0 0 0 0 := by
  refine Ki_of (cc := cX7_coreStart) (nL := 2) (by decide) rfl (Nat.le_of_ble_eq_true rfl) ?_
  intro p e s m args below meth c A C hnm
  refine j_lo (lo1 := [(0, .ref r)]) [0] rfl ?_
  have lp : ∀ (d9 : Nat) (i : Nat), e9 - i < d9 → (i ≤ e9) → J p l e (fz_rm 0 0 0 0) s m args below meth c (MQ below (va_Qi (fun (v : Int32) (_ : Unit) => v = nI e9) (fz_B G (fun _ => [(r, .inr (9, [.ref lt, .int (nI xs.length)])), (lt, .inl (cy 0, R, .inl f))]) A) A) args s 0 0 A) G A 2 [(r, .inr (9, [.ref lt, .int (nI xs.length)])), (lt, .inl (cy 0, R, .inl f))] 0 0 2 [(1, .int (nI i)), (0, .ref r)] [] := by
    intro d9
    induction d9 with
    | zero => intro i hd9; exact absurd hd9 (Nat.not_lt_zero _)
    | succ d9 ih =>
      intro i hd9 hi
      have hle := IsE_le he
      refine j_iload_n C rfl 0 rfl dX7_coreStart_2 ?_
      refine j_aload_n C rfl 1 rfl dX7_coreStart_3 ?_
      refine j_getf C (Cn := RX7) (T := TX7) (N := 2) fin_X7_coreStart_RX7 0 rfl rfl 1 (by decide) (by decide +kernel) rfl dX7_coreStart_4 ?_
      refine j_iconst C (v := (nI 1)) (by decide +kernel) dX7_coreStart_7 ?_
      refine j_isub C (v := (nI xs.length - nI 1)) (rfl) dX7_coreStart_8 ?_
      refine j_iload_n C rfl 0 rfl dX7_coreStart_9 ?_
      refine j_isub C (v := (nI xs.length - nI 1 - nI i)) (rfl) dX7_coreStart_10 ?_
      refine j_icmp_ge C (P := ¬ 2 * i + 1 < xs.length) (fx_cs (by omega) (by omega)) (tgt := 44) (by decide) dX7_coreStart_11 (fun ht => ?_) (fun hq => ?_)
      · have hie : i = e9 := Nat.le_antisymm hi (Nat.le_of_not_lt fun z => ht (he.1 i z).1)
        subst hie
        refine j_iload_n C rfl 0 rfl dX7_coreStart_44 ?_
        exact j_iret C rfl (rfl) (()) (rfl) [0, 1] rfl (by decide) (Nat.le_of_ble_eq_true rfl) (Nat.le_of_ble_eq_true rfl) dX7_coreStart_45
      · have hq9 : 2 * i + 1 < xs.length := Classical.not_not.mp hq
        have l1 := h6 i (by omega)
        have l2 := fv_lt _ (h6 (xs.length - 1 - i) (by omega))
        refine j_aload_n C rfl 1 rfl dX7_coreStart_14 ?_
        refine j_getf C (Cn := RX7) (T := TX7) (N := 2) fin_X7_coreStart_RX7 0 rfl rfl 0 (by decide) (by decide +kernel) rfl dX7_coreStart_15 ?_
        refine j_iload_n C rfl 0 rfl dX7_coreStart_18 ?_
        refine j_bald C 1 rfl (j := i) (by omega) (by omega) (v := (nI (gd xs i))) (hf i (by omega)) dX7_coreStart_19 ?_
        refine j_aload_n C rfl 1 rfl dX7_coreStart_20 ?_
        refine j_getf C (Cn := RX7) (T := TX7) (N := 2) fin_X7_coreStart_RX7 0 rfl rfl 0 (by decide) (by decide +kernel) rfl dX7_coreStart_21 ?_
        refine j_aload_n C rfl 1 rfl dX7_coreStart_24 ?_
        refine j_getf C (Cn := RX7) (T := TX7) (N := 2) fin_X7_coreStart_RX7 0 rfl rfl 1 (by decide) (by decide +kernel) rfl dX7_coreStart_25 ?_
        refine j_iconst C (v := (nI 1)) (by decide +kernel) dX7_coreStart_28 ?_
        refine j_isub C (v := (nI (xs.length - 1))) (pk_sub (by omega)) dX7_coreStart_29 ?_
        refine j_iload_n C rfl 0 rfl dX7_coreStart_30 ?_
        refine j_isub C (v := (nI (xs.length - 1 - i))) (pk_sub (by omega)) dX7_coreStart_31 ?_
        refine j_bald C 1 rfl (j := xs.length - 1 - i) (by omega) (by omega) (v := (nI (gd xs (xs.length - 1 - i)))) (hf _ (by omega)) dX7_coreStart_32 ?_
        refine j_iconst C (v := (nI 1)) (by decide +kernel) dX7_coreStart_33 ?_
        refine j_ixor C (v := (nI (fv (gd xs (xs.length - 1 - i))))) (fx_fv (gd xs (xs.length - 1 - i))) dX7_coreStart_34 ?_
        refine j_icmp_ne C (P := gd xs i = fv (gd xs (xs.length - 1 - i))) (nI_eq (by omega) (by omega)) (tgt := 44) (by decide) dX7_coreStart_35 (fun hn => ?_) (fun hy => ?_)
        · have hie : i = e9 := Nat.le_antisymm hi (Nat.le_of_not_lt fun z => hn (he.1 i z).2)
          subst hie
          refine j_iload_n C rfl 0 rfl dX7_coreStart_44 ?_
          exact j_iret C rfl (rfl) (()) (rfl) [0, 1] rfl (by decide) (Nat.le_of_ble_eq_true rfl) (Nat.le_of_ble_eq_true rfl) dX7_coreStart_45
        · have hne : i ≠ e9 := fun z => he.2 (by rw [← z]; exact ⟨hq9, hy⟩)
          refine j_iinc C (v := (nI (i + 1))) (lo1 := [(1, .int (nI (i + 1))), (0, .ref r)]) 0 rfl (fx_inc i 1) (by decide) rfl dX7_coreStart_38 ?_
          refine j_goto C (tgt := 2) (by decide) dX7_coreStart_41 ?_
          refine j_lo (lo1 := [(1, .int (nI (i + 1))), (0, .ref r)]) [0, 1] rfl ?_
          exact ih (i + 1) (by omega) (by omega)
  refine j_iconst C (v := (nI 0)) (by decide +kernel) dX7_coreStart_0 ?_
  refine j_istore_n C (lo1 := [(1, .int (nI 0)), (0, .ref r)]) rfl (by decide) rfl dX7_coreStart_1 ?_
  refine j_lo (lo1 := [(1, .int (nI 0)), (0, .ref r)]) [0, 1] rfl ?_
  exact lp (e9 + 1) 0 (by omega) (by omega)
set_option maxRecDepth 100000 in
theorem fin_X7_coreSize_RX7 : ∀ w ∈ u_ws RX7 TX7 2, w ∈ wsX7_coreSize := by decide +kernel
theorem hdV_X7_coreStart : yX7_coreStart.cls = RX7 ∧ yX7_coreStart.cls ≠ "java/lang/invoke/MethodHandle" ∧ yX7_coreStart.cls ≠ "java/lang/invoke/VarHandle" ∧ (parseMethodDescriptor yX7_coreStart.desc).map (fun d => d.parameters.length) = some 0 := by decide +kernel
set_option maxHeartbeats 4000000 in
set_option maxRecDepth 100000 in
/-- coreSize -/
theorem c_X7_coreSize {l : Launch} {G : va_G} {cy : Nat → ClassId} {r lt R e9 : Nat} {xs : List Nat} {f : Nat → Int32} (hR : R < 2 ^ 20) (he : IsE xs e9) (h6 : L6 xs) (hf : Hd f xs) (hxR : xs.length ≤ R)  : Ki l yX7_coreSize wsX7_coreSize G cy [.ref r] [(r, .inr (9, [.ref lt, .int (nI xs.length)])), (lt, .inl (cy 0, R, .inl f))] (fun (v : Int32) (_ : Unit) => v = nI (xs.length - 2 * e9)) (fun _ => [(r, .inr (9, [.ref lt, .int (nI xs.length)])), (lt, .inl (cy 0, R, .inl f))]) 1 0 0 21 := by
  refine Ki_of (cc := cX7_coreSize) (nL := 1) (by decide) rfl (Nat.le_of_ble_eq_true rfl) ?_
  intro p e s m args below meth c A C hnm
  refine j_lo (lo1 := [(0, .ref r)]) [0] rfl ?_
  refine j_aload_n C rfl 0 rfl dX7_coreSize_0 ?_
  refine j_getf C (Cn := RX7) (T := TX7) (N := 2) fin_X7_coreSize_RX7 0 rfl rfl 1 (by decide) (by decide +kernel) rfl dX7_coreSize_1 ?_
  refine j_iconst C (v := (nI 2)) (by decide +kernel) dX7_coreSize_4 ?_
  refine j_aload_n C rfl 0 rfl dX7_coreSize_5 ?_
  refine j_resi (k1 := 0) (n1 := 0) C (j_runV C (c_X7_coreStart hR he h6 hf hxR) gX7_coreSize_X7_coreStart rfl hdV_X7_coreStart ⟨Nat.le_of_ble_eq_true rfl, Nat.le_of_ble_eq_true rfl⟩ ⟨Nat.le_of_ble_eq_true rfl, Nat.le_of_ble_eq_true rfl⟩ 0 rfl rfl rfl [0, 1] rfl (by decide) rfl (Nat.le_of_ble_eq_true rfl) dX7_coreSize_6) (wr := []) [] rfl (by decide) (by decide) (Nat.le_refl _) (Nat.le_refl _) (fun v u hv => ?_)
  subst hv
  have hle := IsE_le he
  refine j_imul C (v := (nI (2 * e9))) (pk_mul 2 e9) dX7_coreSize_9 ?_
  refine j_isub C (v := (nI (xs.length - (2 * e9)))) (pk_sub (by omega)) dX7_coreSize_10 ?_
  exact j_iret C rfl (rfl) (()) (rfl) [0, 1] rfl (by decide) (Nat.le_of_ble_eq_true rfl) (Nat.le_of_ble_eq_true rfl) dX7_coreSize_11
set_option maxRecDepth 100000 in
theorem fin_X7_repeats_RX7 : ∀ w ∈ u_ws RX7 TX7 2, w ∈ wsX7_repeats := by decide +kernel
set_option maxHeartbeats 4000000 in
set_option maxRecDepth 100000 in
/-- repeats -/
theorem c_X7_repeats {l : Launch} {G : va_G} {cy : Nat → ClassId} {r lt R e9 core q : Nat} {xs : List Nat} {f : Nat → Int32} (hR : R < 2 ^ 20) (h1 : 1 ≤ q) (hqc : q ≤ core) (hec : e9 + core ≤ xs.length) (h6 : L6 xs) (hf : Hd f xs) (hxR : xs.length ≤ R)  : Ki l yX7_repeats wsX7_repeats G cy [.ref r, .int (nI e9), .int (nI core), .int (nI q)] [(r, .inr (9, [.ref lt, .int (nI xs.length)])), (lt, .inl (cy 0, R, .inl f))] (fun (v : Int32) (_ : Unit) => (v = 1 ∧ Rp xs e9 core q) ∨ (v = 0 ∧ ¬ Rp xs e9 core q)) (fun _ => [(r, .inr (9, [.ref lt, .int (nI xs.length)])), (lt, .inl (cy 0, R, .inl f))]) 0 0 0 0 := by
  refine Ki_of (cc := cX7_repeats) (nL := 5) (by decide) rfl (Nat.le_of_ble_eq_true rfl) ?_
  intro p e s m args below meth c A C hnm
  refine j_lo (lo1 := [(0, .ref r), (1, .int (nI e9)), (2, .int (nI core)), (3, .int (nI q))]) [0, 1, 2, 3] rfl ?_
  have lp : ∀ (d9 : Nat) (j : Nat), e9 + core - j < d9 → ((e9 + q ≤ j ∧ j ≤ e9 + core) ∧ ∀ i, q ≤ i → e9 + i < j → gd xs (e9 + i) = gd xs (e9 + i - q)) → J p l e (fz_rm 0 0 0 0) s m args below meth c (MQ below (va_Qi (fun (v : Int32) (_ : Unit) => (v = 1 ∧ Rp xs e9 core q) ∨ (v = 0 ∧ ¬ Rp xs e9 core q)) (fz_B G (fun _ => [(r, .inr (9, [.ref lt, .int (nI xs.length)])), (lt, .inl (cy 0, R, .inl f))]) A) A) args s 0 0 A) G A 5 [(r, .inr (9, [.ref lt, .int (nI xs.length)])), (lt, .inl (cy 0, R, .inl f))] 0 0 5 [(4, .int (nI j)), (1, .int (nI e9)), (2, .int (nI core)), (3, .int (nI q)), (0, .ref r)] [] := by
    intro d9
    induction d9 with
    | zero => intro j hd9; exact absurd hd9 (Nat.not_lt_zero _)
    | succ d9 ih =>
      intro j hd9 hj
      refine j_iload C 0 rfl dX7_repeats_5 ?_
      refine j_iload_n C rfl 1 rfl dX7_repeats_7 ?_
      refine j_iload_n C rfl 2 rfl dX7_repeats_8 ?_
      refine j_iadd C (v := (nI (e9 + core))) (fx_add e9 core) dX7_repeats_9 ?_
      refine j_icmp_ge C (P := e9 + core ≤ j) (nI_leI (by omega) (by omega)) (tgt := 40) (by decide) dX7_repeats_10 (fun ht => ?_) (fun hz => ?_)
      · refine j_iconst C (v := (nI 1)) (by decide +kernel) dX7_repeats_40 ?_
        exact j_iret C rfl (rfl) (()) (Or.inl ⟨rfl, fun i h1 h2 => hj.2 i h1 (by omega)⟩) [0, 1] rfl (by decide) (Nat.le_of_ble_eq_true rfl) (Nat.le_of_ble_eq_true rfl) dX7_repeats_41
      · have l1 := h6 j (by omega)
        have l2 := h6 (j - q) (by omega)
        refine j_aload_n C rfl 4 rfl dX7_repeats_13 ?_
        refine j_getf C (Cn := RX7) (T := TX7) (N := 2) fin_X7_repeats_RX7 0 rfl rfl 0 (by decide) (by decide +kernel) rfl dX7_repeats_14 ?_
        refine j_iload C 0 rfl dX7_repeats_17 ?_
        refine j_bald C 1 rfl (j := j) (by omega) (by omega) (v := (nI (gd xs j))) (hf j (by omega)) dX7_repeats_19 ?_
        refine j_aload_n C rfl 4 rfl dX7_repeats_20 ?_
        refine j_getf C (Cn := RX7) (T := TX7) (N := 2) fin_X7_repeats_RX7 0 rfl rfl 0 (by decide) (by decide +kernel) rfl dX7_repeats_21 ?_
        refine j_iload C 0 rfl dX7_repeats_24 ?_
        refine j_iload_n C rfl 3 rfl dX7_repeats_26 ?_
        refine j_isub C (v := (nI (j - q))) (pk_sub (by omega)) dX7_repeats_27 ?_
        refine j_bald C 1 rfl (j := j - q) (by omega) (by omega) (v := (nI (gd xs (j - q)))) (hf _ (by omega)) dX7_repeats_28 ?_
        refine j_icmp_eq C (P := gd xs j = gd xs (j - q)) (nI_eq (by omega) (by omega)) (tgt := 34) (by decide) dX7_repeats_29 (fun hy => ?_) (fun hn => ?_)
        · refine j_iinc C (v := (nI (j + 1))) (lo1 := [(4, .int (nI (j + 1))), (1, .int (nI e9)), (2, .int (nI core)), (3, .int (nI q)), (0, .ref r)]) 0 rfl (fx_inc j 1) (by decide) rfl dX7_repeats_34 ?_
          refine j_goto C (tgt := 5) (by decide) dX7_repeats_37 ?_
          refine j_lo (lo1 := [(4, .int (nI (j + 1))), (1, .int (nI e9)), (2, .int (nI core)), (3, .int (nI q)), (0, .ref r)]) [0, 1, 2, 3, 4] rfl ?_
          refine ih (j + 1) (by omega) ⟨by omega, fun i h1 h2 => ?_⟩
          rcases Nat.lt_or_ge (e9 + i) j with z9 | z9
          · exact hj.2 i h1 z9
          · rw [show e9 + i = j by omega]; exact hy
        · refine j_iconst C (v := (nI 0)) (by decide +kernel) dX7_repeats_32 ?_
          exact j_iret C rfl (rfl) (()) (Or.inr ⟨rfl, fun z => hn (by have z2 := z (j - e9) (by omega) (by omega); rwa [show e9 + (j - e9) = j by omega] at z2)⟩) [0, 1] rfl (by decide) (Nat.le_of_ble_eq_true rfl) (Nat.le_of_ble_eq_true rfl) dX7_repeats_33
  refine j_iload_n C rfl 1 rfl dX7_repeats_0 ?_
  refine j_iload_n C rfl 3 rfl dX7_repeats_1 ?_
  refine j_iadd C (v := (nI (e9 + q))) (fx_add e9 q) dX7_repeats_2 ?_
  refine j_istore C (lo1 := [(4, .int (nI (e9 + q))), (0, .ref r), (1, .int (nI e9)), (2, .int (nI core)), (3, .int (nI q))]) (by decide) rfl dX7_repeats_3 ?_
  refine j_lo (lo1 := [(4, .int (nI (e9 + q))), (1, .int (nI e9)), (2, .int (nI core)), (3, .int (nI q)), (0, .ref r)]) [0, 2, 3, 4, 1] rfl ?_
  exact lp (e9 + core + 1) (e9 + q) (by omega) ⟨by omega, fun i h1 h2 => absurd h2 (by omega)⟩
set_option maxRecDepth 100000 in
theorem fin_X7_corePeriod_RX7 : ∀ w ∈ u_ws RX7 TX7 2, w ∈ wsX7_corePeriod := by decide +kernel
theorem hdV_X7_repeats : yX7_repeats.cls = RX7 ∧ yX7_repeats.cls ≠ "java/lang/invoke/MethodHandle" ∧ yX7_repeats.cls ≠ "java/lang/invoke/VarHandle" ∧ (parseMethodDescriptor yX7_repeats.desc).map (fun d => d.parameters.length) = some 3 := by decide +kernel
set_option maxHeartbeats 4000000 in
set_option maxRecDepth 100000 in
/-- corePeriod -/
theorem c_X7_corePeriod {l : Launch} {G : va_G} {cy : Nat → ClassId} {r lt R e9 core per : Nat} {xs : List Nat} {f : Nat → Int32} (hR : R < 2 ^ 20) (he : IsE xs e9) (hec : xs.length = 2 * e9 + core) (hp : (core = 0 ∧ per = 0) ∨ IsP xs e9 core per) (h6 : L6 xs) (hf : Hd f xs) (hxR : xs.length ≤ R)  : Ki l yX7_corePeriod wsX7_corePeriod G cy [.ref r] [(r, .inr (9, [.ref lt, .int (nI xs.length)])), (lt, .inl (cy 0, R, .inl f))] (fun (v : Int32) (_ : Unit) => v = nI per) (fun _ => [(r, .inr (9, [.ref lt, .int (nI xs.length)])), (lt, .inl (cy 0, R, .inl f))]) 1 0 0 24 := by
  refine Ki_of (cc := cX7_corePeriod) (nL := 4) (by decide) rfl (Nat.le_of_ble_eq_true rfl) ?_
  intro p e s m args below meth c A C hnm
  refine j_lo (lo1 := [(0, .ref r)]) [0] rfl ?_
  refine j_aload_n C rfl 0 rfl dX7_corePeriod_0 ?_
  refine j_resi (k1 := 0) (n1 := 0) C (j_runV C (c_X7_coreStart hR he h6 hf hxR) gX7_corePeriod_X7_coreStart rfl hdV_X7_coreStart ⟨Nat.le_of_ble_eq_true rfl, Nat.le_of_ble_eq_true rfl⟩ ⟨Nat.le_of_ble_eq_true rfl, Nat.le_of_ble_eq_true rfl⟩ 0 rfl rfl rfl [0, 1] rfl (by decide) rfl (Nat.le_of_ble_eq_true rfl) dX7_corePeriod_1) (wr := []) [] rfl (by decide) (by decide) (Nat.le_refl _) (Nat.le_refl _) (fun v u hv => ?_)
  subst hv
  have hle := IsE_le he
  refine j_istore_n C (lo1 := [(1, .int (nI e9)), (0, .ref r)]) rfl (by decide) rfl dX7_corePeriod_4 ?_
  refine j_aload_n C rfl 1 rfl dX7_corePeriod_5 ?_
  refine j_getf C (Cn := RX7) (T := TX7) (N := 2) fin_X7_corePeriod_RX7 0 rfl rfl 1 (by decide) (by decide +kernel) rfl dX7_corePeriod_6 ?_
  refine j_iconst C (v := (nI 2)) (by decide +kernel) dX7_corePeriod_9 ?_
  refine j_iload_n C rfl 0 rfl dX7_corePeriod_10 ?_
  refine j_imul C (v := (nI (2 * e9))) (pk_mul 2 e9) dX7_corePeriod_11 ?_
  refine j_isub C (v := (nI core)) (by rw [pk_sub (by omega), show xs.length - 2 * e9 = core by omega]) dX7_corePeriod_12 ?_
  refine j_istore_n C (lo1 := [(2, .int (nI core)), (1, .int (nI e9)), (0, .ref r)]) rfl (by decide) rfl dX7_corePeriod_13 ?_
  refine j_iconst C (v := (nI 1)) (by decide +kernel) dX7_corePeriod_14 ?_
  refine j_istore_n C (lo1 := [(3, .int (nI 1)), (2, .int (nI core)), (1, .int (nI e9)), (0, .ref r)]) rfl (by decide) rfl dX7_corePeriod_15 ?_
  refine j_lo (lo1 := [(3, .int (nI 1)), (2, .int (nI core)), (1, .int (nI e9)), (0, .ref r)]) [0, 1, 2, 3] rfl ?_
  have hdone : ∀ q, core ≤ q → (∀ q9, 1 ≤ q9 → q9 < q → ¬ (core % q9 = 0 ∧ Rp xs e9 core q9)) → core = per := fun q h1 h2 => by
    rcases hp with ⟨z1, z2⟩ | ⟨z1, z2, z3, z4, z5⟩
    · omega
    · rcases Nat.lt_or_ge per q with z | z
      · exact absurd ⟨z3, z4⟩ (h2 per z1 z)
      · omega
  have hfound : ∀ q, 1 ≤ q → q < core → (∀ q9, 1 ≤ q9 → q9 < q → ¬ (core % q9 = 0 ∧ Rp xs e9 core q9)) → core % q = 0 → Rp xs e9 core q → q = per := fun q h1 h0 h2 h3 h4 => by
    rcases hp with ⟨z1, z2⟩ | ⟨z1, z2, z3, z4, z5⟩
    · omega
    · rcases Nat.lt_trichotomy per q with z | z | z
      · exact absurd ⟨z3, z4⟩ (h2 per z1 z)
      · exact z.symm
      · exact absurd ⟨h3, h4⟩ (z5 q h1 z)
  have lp : ∀ (d9 : Nat) (q : Nat), core - q < d9 → ((1 ≤ q ∧ q ≤ core + 1) ∧ ∀ q9, 1 ≤ q9 → q9 < q → ¬ (core % q9 = 0 ∧ Rp xs e9 core q9)) → J p l e (fz_rm 1 0 0 24) s m args below meth c (MQ below (va_Qi (fun (v : Int32) (_ : Unit) => v = nI per) (fz_B G (fun _ => [(r, .inr (9, [.ref lt, .int (nI xs.length)])), (lt, .inl (cy 0, R, .inl f))]) A) A) args s 0 0 A) G A 4 [(r, .inr (9, [.ref lt, .int (nI xs.length)])), (lt, .inl (cy 0, R, .inl f))] 0 0 16 [(3, .int (nI q)), (2, .int (nI core)), (1, .int (nI e9)), (0, .ref r)] [] := by
    intro d9
    induction d9 with
    | zero => intro q hd9; exact absurd hd9 (Nat.not_lt_zero _)
    | succ d9 ih =>
      intro q hd9 hj
      refine j_iload_n C rfl 0 rfl dX7_corePeriod_16 ?_
      refine j_iload_n C rfl 1 rfl dX7_corePeriod_17 ?_
      refine j_icmp_ge C (P := core ≤ q) (nI_leI (by omega) (by omega)) (tgt := 45) (by decide) dX7_corePeriod_18 (fun ht => ?_) (fun hz => ?_)
      · refine j_iload_n C rfl 1 rfl dX7_corePeriod_45 ?_
        exact j_iret C rfl (rfl) (()) (by rw [hdone q (by omega) hj.2]) [0, 1] rfl (by decide) (Nat.le_of_ble_eq_true rfl) (Nat.le_of_ble_eq_true rfl) dX7_corePeriod_46
      · refine j_iload_n C rfl 1 rfl dX7_corePeriod_21 ?_
        refine j_iload_n C rfl 0 rfl dX7_corePeriod_22 ?_
        refine j_irem C (v := (nI (core % q))) (fx_n0 (by omega) (by omega)) (pk_rem (by omega) (by omega) (by omega)) dX7_corePeriod_23 ?_
        have hrl := Nat.mod_lt core (show 0 < q by omega)
        refine j_if_ne C (P := core % q = 0) (fx_eq0 (by omega)) (tgt := 39) (by decide) dX7_corePeriod_24 (fun hn => ?_) (fun hy => ?_)
        · refine j_iinc C (v := (nI (q + 1))) (lo1 := [(3, .int (nI (q + 1))), (2, .int (nI core)), (1, .int (nI e9)), (0, .ref r)]) 0 rfl (fx_inc q 1) (by decide) rfl dX7_corePeriod_39 ?_
          refine j_goto C (tgt := 16) (by decide) dX7_corePeriod_42 ?_
          refine j_lo (lo1 := [(3, .int (nI (q + 1))), (2, .int (nI core)), (1, .int (nI e9)), (0, .ref r)]) [0, 1, 2, 3] rfl ?_
          exact ih (q + 1) (by omega) ⟨⟨by omega, by omega⟩, fun q9 h1 h2 => (Nat.lt_or_ge q9 q).elim (hj.2 q9 h1) fun z9 => by rw [show q9 = q by omega]; exact fun z8 => hn z8.1⟩
        · refine j_aload_n C rfl 3 rfl dX7_corePeriod_27 ?_
          refine j_iload_n C rfl 2 rfl dX7_corePeriod_28 ?_
          refine j_iload_n C rfl 1 rfl dX7_corePeriod_29 ?_
          refine j_iload_n C rfl 0 rfl dX7_corePeriod_30 ?_
          refine j_resi (k1 := 0) (n1 := 0) C (j_runV C (c_X7_repeats (q := q) hR (by omega) (by omega) (by omega) h6 hf hxR) gX7_corePeriod_X7_repeats rfl hdV_X7_repeats ⟨Nat.le_of_ble_eq_true rfl, Nat.le_of_ble_eq_true rfl⟩ ⟨Nat.le_of_ble_eq_true rfl, Nat.le_of_ble_eq_true rfl⟩ 0 rfl rfl rfl [0, 1] rfl (by decide) rfl (Nat.le_of_ble_eq_true rfl) dX7_corePeriod_31) (wr := []) [] rfl (by decide) (by decide) (Nat.le_refl _) (Nat.le_refl _) (fun v u hv => ?_)
          rcases hv with ⟨rfl, hv⟩ | ⟨rfl, hv⟩
          · refine j_if_eq C (P := False) (by decide) (tgt := 39) (by decide) dX7_corePeriod_34 (fun h9 => h9.elim) (fun _ => ?_)
            refine j_iload_n C rfl 0 rfl dX7_corePeriod_37 ?_
            exact j_iret C rfl (rfl) (()) (by rw [hfound q hj.1.1 (by omega) hj.2 hy hv]) [0, 1] rfl (by decide) (Nat.le_of_ble_eq_true rfl) (Nat.le_of_ble_eq_true rfl) dX7_corePeriod_38
          · refine j_if_eq C (P := True) (by decide) (tgt := 39) (by decide) dX7_corePeriod_34 (fun _ => ?_) (fun h9 => absurd trivial h9)
            refine j_iinc C (v := (nI (q + 1))) (lo1 := [(3, .int (nI (q + 1))), (2, .int (nI core)), (1, .int (nI e9)), (0, .ref r)]) 0 rfl (fx_inc q 1) (by decide) rfl dX7_corePeriod_39 ?_
            refine j_goto C (tgt := 16) (by decide) dX7_corePeriod_42 ?_
            refine j_lo (lo1 := [(3, .int (nI (q + 1))), (2, .int (nI core)), (1, .int (nI e9)), (0, .ref r)]) [0, 1, 2, 3] rfl ?_
            exact ih (q + 1) (by omega) ⟨⟨by omega, by omega⟩, fun q9 h1 h2 => (Nat.lt_or_ge q9 q).elim (hj.2 q9 h1) fun z9 => by rw [show q9 = q by omega]; exact fun z8 => hv z8.2⟩
  exact lp (core + 1) 1 (by omega) ⟨⟨by omega, by omega⟩, fun q9 h1 h2 => absurd h2 (by omega)⟩
set_option maxRecDepth 100000 in
theorem fin_X7_isTurned_RX7 : ∀ w ∈ u_ws RX7 TX7 2, w ∈ wsX7_isTurned := by decide +kernel
set_option maxHeartbeats 4000000 in
set_option maxRecDepth 100000 in
/-- isTurned -/
theorem c_X7_isTurned {l : Launch} {G : va_G} {cy : Nat → ClassId} {r lt R r2 lt2 R2 : Nat} {xs ys : List Nat} {f g : Nat → Int32} (hR : R < 2 ^ 20) (hR2 : R2 < 2 ^ 20) {e1 e2 t core : Nat} (htc : t < core) (hc1 : e1 + core ≤ xs.length) (hc2 : e2 + core ≤ ys.length) (h6 : L6 xs) (hy6 : L6 ys) (hf : Hd f xs) (hg : Hd g ys) (hxR : xs.length ≤ R) (hyR : ys.length ≤ R2)  : Ki l yX7_isTurned wsX7_isTurned G cy [.ref r, .int (nI e1), .ref r2, .int (nI e2), .int (nI t), .int (nI core)] [(r, .inr (9, [.ref lt, .int (nI xs.length)])), (lt, .inl (cy 0, R, .inl f)), (r2, .inr (9, [.ref lt2, .int (nI ys.length)])), (lt2, .inl (cy 0, R2, .inl g))] (fun (v : Int32) (_ : Unit) => (v = 1 ∧ It xs e1 ys e2 core t) ∨ (v = 0 ∧ ¬ It xs e1 ys e2 core t)) (fun _ => [(r, .inr (9, [.ref lt, .int (nI xs.length)])), (lt, .inl (cy 0, R, .inl f)), (r2, .inr (9, [.ref lt2, .int (nI ys.length)])), (lt2, .inl (cy 0, R2, .inl g))]) 0 0 0 0 := by
  refine Ki_of (cc := cX7_isTurned) (nL := 8) (by decide) rfl (Nat.le_of_ble_eq_true rfl) ?_
  intro p e s m args below meth c A C hnm
  refine j_lo (lo1 := [(0, .ref r), (1, .int (nI e1)), (2, .ref r2), (3, .int (nI e2)), (4, .int (nI t)), (5, .int (nI core))]) [0, 1, 2, 3, 4, 5] rfl ?_
  have lp : ∀ (d9 : Nat) (i : Nat), core - i < d9 → (i ≤ core ∧ ∀ i9, i9 < i → gd xs (e1 + i9) = gd ys (e2 + if i9 + t < core then i9 + t else i9 + t - core)) → J p l e (fz_rm 0 0 0 0) s m args below meth c (MQ below (va_Qi (fun (v : Int32) (_ : Unit) => (v = 1 ∧ It xs e1 ys e2 core t) ∨ (v = 0 ∧ ¬ It xs e1 ys e2 core t)) (fz_B G (fun _ => [(r, .inr (9, [.ref lt, .int (nI xs.length)])), (lt, .inl (cy 0, R, .inl f)), (r2, .inr (9, [.ref lt2, .int (nI ys.length)])), (lt2, .inl (cy 0, R2, .inl g))]) A) A) args s 0 0 A) G A 8 [(r, .inr (9, [.ref lt, .int (nI xs.length)])), (lt, .inl (cy 0, R, .inl f)), (r2, .inr (9, [.ref lt2, .int (nI ys.length)])), (lt2, .inl (cy 0, R2, .inl g))] 0 0 3 [(6, .int (nI i)), (1, .int (nI e1)), (3, .int (nI e2)), (4, .int (nI t)), (5, .int (nI core)), (0, .ref r), (2, .ref r2)] [] := by
    intro d9
    induction d9 with
    | zero => intro i hd9; exact absurd hd9 (Nat.not_lt_zero _)
    | succ d9 ih =>
      intro i hd9 hj
      refine j_iload C 0 rfl dX7_isTurned_3 ?_
      refine j_iload C 4 rfl dX7_isTurned_5 ?_
      refine j_icmp_ge C (P := core ≤ i) (nI_leI (by omega) (by omega)) (tgt := 67) (by decide) dX7_isTurned_7 (fun ha => ?_) (fun hb => ?_)
      · refine j_iconst C (v := (nI 1)) (by decide +kernel) dX7_isTurned_67 ?_
        exact j_iret C rfl (rfl) (()) (Or.inl ⟨rfl, fun i9 h9 => hj.2 i9 (by omega)⟩) [0, 1, 2, 3] rfl (by decide) (Nat.le_of_ble_eq_true rfl) (Nat.le_of_ble_eq_true rfl) dX7_isTurned_68
      · refine j_iload C 0 rfl dX7_isTurned_10 ?_
        refine j_iload C 3 rfl dX7_isTurned_12 ?_
        refine j_iadd C (v := (nI (i + t))) (fx_add i t) dX7_isTurned_14 ?_
        refine j_iload C 4 rfl dX7_isTurned_15 ?_
        refine j_icmp_ge C (P := core ≤ i + t) (nI_leI (by omega) (by omega)) (tgt := 28) (by decide) dX7_isTurned_17 (fun hc => ?_) (fun hd => ?_)
        · have l1 := h6 (e1 + i) (by omega)
          have l2 := hy6 (e2 + (i + t - core)) (by omega)
          have hix : (if i + t < core then i + t else i + t - core) = i + t - core := if_neg (by omega)
          refine j_iload C 0 rfl dX7_isTurned_28 ?_
          refine j_iload C 3 rfl dX7_isTurned_30 ?_
          refine j_iadd C (v := (nI (i + t))) (fx_add i t) dX7_isTurned_32 ?_
          refine j_iload C 4 rfl dX7_isTurned_33 ?_
          refine j_isub C (v := (nI (i + t - core))) (pk_sub (by omega)) dX7_isTurned_35 ?_
          refine j_istore C (lo1 := [(7, .int (nI (i + t - core))), (6, .int (nI i)), (1, .int (nI e1)), (3, .int (nI e2)), (4, .int (nI t)), (5, .int (nI core)), (0, .ref r), (2, .ref r2)]) (by decide) rfl dX7_isTurned_36 ?_
          refine j_aload_n C rfl 6 rfl dX7_isTurned_38 ?_
          refine j_getf C (Cn := RX7) (T := TX7) (N := 2) fin_X7_isTurned_RX7 0 rfl rfl 0 (by decide) (by decide +kernel) rfl dX7_isTurned_39 ?_
          refine j_iload_n C rfl 2 rfl dX7_isTurned_42 ?_
          refine j_iload C 1 rfl dX7_isTurned_43 ?_
          refine j_iadd C (v := (nI (e1 + i))) (fx_add e1 i) dX7_isTurned_45 ?_
          refine j_bald C 1 rfl (j := e1 + i) (by omega) (by omega) (v := (nI (gd xs (e1 + i)))) (hf _ (by omega)) dX7_isTurned_46 ?_
          refine j_aload_n C rfl 7 rfl dX7_isTurned_47 ?_
          refine j_getf C (Cn := RX7) (T := TX7) (N := 2) fin_X7_isTurned_RX7 2 rfl rfl 0 (by decide) (by decide +kernel) rfl dX7_isTurned_48 ?_
          refine j_iload_n C rfl 3 rfl dX7_isTurned_51 ?_
          refine j_iload C 0 rfl dX7_isTurned_52 ?_
          refine j_iadd C (v := (nI (e2 + (i + t - core)))) (fx_add e2 (i + t - core)) dX7_isTurned_54 ?_
          refine j_bald C 3 rfl (j := e2 + (i + t - core)) (by omega) (by omega) (v := (nI (gd ys (e2 + (i + t - core))))) (hg _ (by omega)) dX7_isTurned_55 ?_
          refine j_icmp_eq C (P := gd xs (e1 + i) = gd ys (e2 + (i + t - core))) (nI_eq (by omega) (by omega)) (tgt := 61) (by decide) dX7_isTurned_56 (fun he => ?_) (fun hn => ?_)
          · refine j_iinc C (v := (nI (i + 1))) (lo1 := [(6, .int (nI (i + 1))), (7, .int (nI (i + t - core))), (1, .int (nI e1)), (3, .int (nI e2)), (4, .int (nI t)), (5, .int (nI core)), (0, .ref r), (2, .ref r2)]) 1 rfl (fx_inc i 1) (by decide) rfl dX7_isTurned_61 ?_
            refine j_goto C (tgt := 3) (by decide) dX7_isTurned_64 ?_
            refine j_lo (lo1 := [(6, .int (nI (i + 1))), (1, .int (nI e1)), (3, .int (nI e2)), (4, .int (nI t)), (5, .int (nI core)), (0, .ref r), (2, .ref r2)]) [0, 2, 3, 4, 5, 6, 7] rfl ?_
            refine ih (i + 1) (by omega) ⟨by omega, fun i9 h9 => ?_⟩
            rcases Nat.lt_or_ge i9 i with z9 | z9
            · exact hj.2 i9 z9
            · rw [show i9 = i by omega, hix]; exact he
          · refine j_iconst C (v := (nI 0)) (by decide +kernel) dX7_isTurned_59 ?_
            exact j_iret C rfl (rfl) (()) (Or.inr ⟨rfl, fun z => hn (by have z2 := z i (by omega); rwa [hix] at z2)⟩) [0, 1, 2, 3] rfl (by decide) (Nat.le_of_ble_eq_true rfl) (Nat.le_of_ble_eq_true rfl) dX7_isTurned_60
        · have l1 := h6 (e1 + i) (by omega)
          have l2 := hy6 (e2 + (i + t)) (by omega)
          have hix : (if i + t < core then i + t else i + t - core) = i + t := if_pos (by omega)
          refine j_iload C 0 rfl dX7_isTurned_20 ?_
          refine j_iload C 3 rfl dX7_isTurned_22 ?_
          refine j_iadd C (v := (nI (i + t))) (fx_add i t) dX7_isTurned_24 ?_
          refine j_goto C (tgt := 36) (by decide) dX7_isTurned_25 ?_
          refine j_istore C (lo1 := [(7, .int (nI (i + t))), (6, .int (nI i)), (1, .int (nI e1)), (3, .int (nI e2)), (4, .int (nI t)), (5, .int (nI core)), (0, .ref r), (2, .ref r2)]) (by decide) rfl dX7_isTurned_36 ?_
          refine j_aload_n C rfl 6 rfl dX7_isTurned_38 ?_
          refine j_getf C (Cn := RX7) (T := TX7) (N := 2) fin_X7_isTurned_RX7 0 rfl rfl 0 (by decide) (by decide +kernel) rfl dX7_isTurned_39 ?_
          refine j_iload_n C rfl 2 rfl dX7_isTurned_42 ?_
          refine j_iload C 1 rfl dX7_isTurned_43 ?_
          refine j_iadd C (v := (nI (e1 + i))) (fx_add e1 i) dX7_isTurned_45 ?_
          refine j_bald C 1 rfl (j := e1 + i) (by omega) (by omega) (v := (nI (gd xs (e1 + i)))) (hf _ (by omega)) dX7_isTurned_46 ?_
          refine j_aload_n C rfl 7 rfl dX7_isTurned_47 ?_
          refine j_getf C (Cn := RX7) (T := TX7) (N := 2) fin_X7_isTurned_RX7 2 rfl rfl 0 (by decide) (by decide +kernel) rfl dX7_isTurned_48 ?_
          refine j_iload_n C rfl 3 rfl dX7_isTurned_51 ?_
          refine j_iload C 0 rfl dX7_isTurned_52 ?_
          refine j_iadd C (v := (nI (e2 + (i + t)))) (fx_add e2 (i + t)) dX7_isTurned_54 ?_
          refine j_bald C 3 rfl (j := e2 + (i + t)) (by omega) (by omega) (v := (nI (gd ys (e2 + (i + t))))) (hg _ (by omega)) dX7_isTurned_55 ?_
          refine j_icmp_eq C (P := gd xs (e1 + i) = gd ys (e2 + (i + t))) (nI_eq (by omega) (by omega)) (tgt := 61) (by decide) dX7_isTurned_56 (fun he => ?_) (fun hn => ?_)
          · refine j_iinc C (v := (nI (i + 1))) (lo1 := [(6, .int (nI (i + 1))), (7, .int (nI (i + t))), (1, .int (nI e1)), (3, .int (nI e2)), (4, .int (nI t)), (5, .int (nI core)), (0, .ref r), (2, .ref r2)]) 1 rfl (fx_inc i 1) (by decide) rfl dX7_isTurned_61 ?_
            refine j_goto C (tgt := 3) (by decide) dX7_isTurned_64 ?_
            refine j_lo (lo1 := [(6, .int (nI (i + 1))), (1, .int (nI e1)), (3, .int (nI e2)), (4, .int (nI t)), (5, .int (nI core)), (0, .ref r), (2, .ref r2)]) [0, 2, 3, 4, 5, 6, 7] rfl ?_
            refine ih (i + 1) (by omega) ⟨by omega, fun i9 h9 => ?_⟩
            rcases Nat.lt_or_ge i9 i with z9 | z9
            · exact hj.2 i9 z9
            · rw [show i9 = i by omega, hix]; exact he
          · refine j_iconst C (v := (nI 0)) (by decide +kernel) dX7_isTurned_59 ?_
            exact j_iret C rfl (rfl) (()) (Or.inr ⟨rfl, fun z => hn (by have z2 := z i (by omega); rwa [hix] at z2)⟩) [0, 1, 2, 3] rfl (by decide) (Nat.le_of_ble_eq_true rfl) (Nat.le_of_ble_eq_true rfl) dX7_isTurned_60
  refine j_iconst C (v := (nI 0)) (by decide +kernel) dX7_isTurned_0 ?_
  refine j_istore C (lo1 := [(6, .int (nI 0)), (0, .ref r), (1, .int (nI e1)), (2, .ref r2), (3, .int (nI e2)), (4, .int (nI t)), (5, .int (nI core))]) (by decide) rfl dX7_isTurned_1 ?_
  refine j_lo (lo1 := [(6, .int (nI 0)), (1, .int (nI e1)), (3, .int (nI e2)), (4, .int (nI t)), (5, .int (nI core)), (0, .ref r), (2, .ref r2)]) [0, 2, 4, 5, 6, 1, 3] rfl ?_
  exact lp (core + 1) 0 (by omega) ⟨by omega, fun i9 h9 => absurd h9 (by omega)⟩
theorem hdV_X7_coreSize : yX7_coreSize.cls = RX7 ∧ yX7_coreSize.cls ≠ "java/lang/invoke/MethodHandle" ∧ yX7_coreSize.cls ≠ "java/lang/invoke/VarHandle" ∧ (parseMethodDescriptor yX7_coreSize.desc).map (fun d => d.parameters.length) = some 0 := by decide +kernel
theorem hdV_X7_isTurned : yX7_isTurned.cls = RX7 ∧ yX7_isTurned.cls ≠ "java/lang/invoke/MethodHandle" ∧ yX7_isTurned.cls ≠ "java/lang/invoke/VarHandle" ∧ (parseMethodDescriptor yX7_isTurned.desc).map (fun d => d.parameters.length) = some 5 := by decide +kernel
set_option maxHeartbeats 4000000 in
set_option maxRecDepth 100000 in
/-- turnOfCore: found -/
theorem c_X7_turnOfCore {l : Launch} {G : va_G} {cy : Nat → ClassId} {r lt R r2 lt2 R2 : Nat} {xs ys : List Nat} {f g : Nat → Int32} (hR : R < 2 ^ 20) (hR2 : R2 < 2 ^ 20) {e1 e2 t core : Nat} (he1 : IsE xs e1) (he2 : IsE ys e2) (hc1 : xs.length = 2 * e1 + core) (hc2 : ys.length = 2 * e2 + core) (hT : IsT xs e1 ys e2 core t) (h6 : L6 xs) (hy6 : L6 ys) (hf : Hd f xs) (hg : Hd g ys) (hxR : xs.length ≤ R) (hyR : ys.length ≤ R2)  : Ki l yX7_turnOfCore wsX7_turnOfCore G cy [.ref r, .ref r2] [(r, .inr (9, [.ref lt, .int (nI xs.length)])), (lt, .inl (cy 0, R, .inl f)), (r2, .inr (9, [.ref lt2, .int (nI ys.length)])), (lt2, .inl (cy 0, R2, .inl g))] (fun (v : Int32) (_ : Unit) => v = nI t) (fun _ => [(r, .inr (9, [.ref lt, .int (nI xs.length)])), (lt, .inl (cy 0, R, .inl f)), (r2, .inr (9, [.ref lt2, .int (nI ys.length)])), (lt2, .inl (cy 0, R2, .inl g))]) 2 0 0 41 := by
  refine Ki_of (cc := cX7_turnOfCore) (nL := 4) (by decide) rfl (Nat.le_of_ble_eq_true rfl) ?_
  intro p e s m args below meth c A C hnm
  refine j_lo (lo1 := [(0, .ref r), (1, .ref r2)]) [0, 1] rfl ?_
  have ht8 := hT.1
  have hle1 := IsE_le he1
  have hle2 := IsE_le he2
  refine j_aload_n C rfl 0 rfl dX7_turnOfCore_0 ?_
  refine j_resi (k1 := 0) (n1 := 0) C (j_runV C (c_X7_coreSize hR he1 h6 hf hxR) gX7_turnOfCore_X7_coreSize rfl hdV_X7_coreSize ⟨Nat.le_of_ble_eq_true rfl, Nat.le_of_ble_eq_true rfl⟩ ⟨Nat.le_of_ble_eq_true rfl, Nat.le_of_ble_eq_true rfl⟩ 0 rfl rfl rfl [0, 1] rfl (by decide) rfl (Nat.le_of_ble_eq_true rfl) dX7_turnOfCore_1) (wr := [(r2, .inr (9, [.ref lt2, .int (nI ys.length)])), (lt2, .inl (cy 0, R2, .inl g))]) [2, 3] rfl (by decide) (by decide) (Nat.le_refl _) (Nat.le_refl _) (fun v u hv => ?_)
  subst hv
  refine j_ws (ws1 := [(r, .inr (9, [.ref lt, .int (nI xs.length)])), (lt, .inl (cy 0, R, .inl f)), (r2, .inr (9, [.ref lt2, .int (nI ys.length)])), (lt2, .inl (cy 0, R2, .inl g))]) [2, 3, 0, 1] rfl (by decide) ?_
  refine j_istore_n C (lo1 := [(2, .int (nI (xs.length - 2 * e1))), (0, .ref r), (1, .ref r2)]) rfl (by decide) rfl dX7_turnOfCore_4 ?_
  refine j_iload_n C rfl 0 rfl dX7_turnOfCore_5 ?_
  refine j_aload_n C rfl 2 rfl dX7_turnOfCore_6 ?_
  refine j_resi (k1 := 0) (n1 := 0) C (j_runV C (c_X7_coreSize hR2 he2 hy6 hg hyR) gX7_turnOfCore_X7_coreSize rfl hdV_X7_coreSize ⟨Nat.le_of_ble_eq_true rfl, Nat.le_of_ble_eq_true rfl⟩ ⟨Nat.le_of_ble_eq_true rfl, Nat.le_of_ble_eq_true rfl⟩ 2 rfl rfl rfl [2, 3] rfl (by decide) rfl (Nat.le_of_ble_eq_true rfl) dX7_turnOfCore_7) (wr := [(r, .inr (9, [.ref lt, .int (nI xs.length)])), (lt, .inl (cy 0, R, .inl f))]) [0, 1] rfl (by decide) (by decide) (Nat.le_refl _) (Nat.le_refl _) (fun v u hv => ?_)
  subst hv
  refine j_ws (ws1 := [(r, .inr (9, [.ref lt, .int (nI xs.length)])), (lt, .inl (cy 0, R, .inl f)), (r2, .inr (9, [.ref lt2, .int (nI ys.length)])), (lt2, .inl (cy 0, R2, .inl g))]) [0, 1, 2, 3] rfl (by decide) ?_
  refine j_icmp_eq C (P := xs.length - 2 * e1 = ys.length - 2 * e2) (nI_eq (by omega) (by omega)) (tgt := 15) (by decide) dX7_turnOfCore_10 (fun ht => ?_) (fun hq => absurd hq (by omega))
  refine j_iload_n C rfl 0 rfl dX7_turnOfCore_15 ?_
  refine j_if_ne C (P := xs.length - 2 * e1 = 0) (fx_eq0 (by omega)) (tgt := 21) (by decide) dX7_turnOfCore_16 (fun ha => ?_) (fun hb => absurd hb (by omega))
  refine j_iconst C (v := (nI 0)) (by decide +kernel) dX7_turnOfCore_21 ?_
  refine j_istore_n C (lo1 := [(3, .int (nI 0)), (2, .int (nI (xs.length - 2 * e1))), (0, .ref r), (1, .ref r2)]) rfl (by decide) rfl dX7_turnOfCore_22 ?_
  have hco : xs.length - 2 * e1 = core := by omega
  refine j_leq (lo1 := [(3, .int (nI 0)), (2, .int (nI core)), (0, .ref r), (1, .ref r2)]) (by rw [hco]) ?_
  refine j_lo (lo1 := [(3, .int (nI 0)), (2, .int (nI core)), (0, .ref r), (1, .ref r2)]) [0, 1, 2, 3] rfl ?_
  have ht9 := hT.1
  have lp : ∀ (d9 : Nat) (i : Nat), core - i < d9 → (i ≤ t) → J p l e (fz_rm 2 0 0 41) s m args below meth c (MQ below (va_Qi (fun (v : Int32) (_ : Unit) => v = nI t) (fz_B G (fun _ => [(r, .inr (9, [.ref lt, .int (nI xs.length)])), (lt, .inl (cy 0, R, .inl f)), (r2, .inr (9, [.ref lt2, .int (nI ys.length)])), (lt2, .inl (cy 0, R2, .inl g))]) A) A) args s 0 0 A) G A 4 [(r, .inr (9, [.ref lt, .int (nI xs.length)])), (lt, .inl (cy 0, R, .inl f)), (r2, .inr (9, [.ref lt2, .int (nI ys.length)])), (lt2, .inl (cy 0, R2, .inl g))] 0 0 23 [(3, .int (nI i)), (2, .int (nI core)), (0, .ref r), (1, .ref r2)] [] := by
    intro d9
    induction d9 with
    | zero => intro i hd9; exact absurd hd9 (Nat.not_lt_zero _)
    | succ d9 ih =>
      intro i hd9 hi
      refine j_iload_n C rfl 0 rfl dX7_turnOfCore_23 ?_
      refine j_iload_n C rfl 1 rfl dX7_turnOfCore_24 ?_
      refine j_icmp_ge C (P := core ≤ i) (nI_leI (by omega) (by omega)) (tgt := 54) (by decide) dX7_turnOfCore_25 (fun ha => absurd ha (by omega)) (fun hb => ?_)
      refine j_aload_n C rfl 2 rfl dX7_turnOfCore_28 ?_
      refine j_aload_n C rfl 2 rfl dX7_turnOfCore_29 ?_
      refine j_resi (k1 := 0) (n1 := 0) C (j_runV C (c_X7_coreStart hR he1 h6 hf hxR) gX7_turnOfCore_X7_coreStart rfl hdV_X7_coreStart ⟨Nat.le_of_ble_eq_true rfl, Nat.le_of_ble_eq_true rfl⟩ ⟨Nat.le_of_ble_eq_true rfl, Nat.le_of_ble_eq_true rfl⟩ 0 rfl rfl rfl [0, 1] rfl (by decide) rfl (Nat.le_of_ble_eq_true rfl) dX7_turnOfCore_30) (wr := [(r2, .inr (9, [.ref lt2, .int (nI ys.length)])), (lt2, .inl (cy 0, R2, .inl g))]) [2, 3] rfl (by decide) (by decide) (Nat.le_refl _) (Nat.le_refl _) (fun v u hv => ?_)
      subst hv
      refine j_ws (ws1 := [(r, .inr (9, [.ref lt, .int (nI xs.length)])), (lt, .inl (cy 0, R, .inl f)), (r2, .inr (9, [.ref lt2, .int (nI ys.length)])), (lt2, .inl (cy 0, R2, .inl g))]) [2, 3, 0, 1] rfl (by decide) ?_
      refine j_aload_n C rfl 3 rfl dX7_turnOfCore_33 ?_
      refine j_aload_n C rfl 3 rfl dX7_turnOfCore_34 ?_
      refine j_resi (k1 := 0) (n1 := 0) C (j_runV C (c_X7_coreStart hR2 he2 hy6 hg hyR) gX7_turnOfCore_X7_coreStart rfl hdV_X7_coreStart ⟨Nat.le_of_ble_eq_true rfl, Nat.le_of_ble_eq_true rfl⟩ ⟨Nat.le_of_ble_eq_true rfl, Nat.le_of_ble_eq_true rfl⟩ 2 rfl rfl rfl [2, 3] rfl (by decide) rfl (Nat.le_of_ble_eq_true rfl) dX7_turnOfCore_35) (wr := [(r, .inr (9, [.ref lt, .int (nI xs.length)])), (lt, .inl (cy 0, R, .inl f))]) [0, 1] rfl (by decide) (by decide) (Nat.le_refl _) (Nat.le_refl _) (fun v u hv => ?_)
      subst hv
      refine j_ws (ws1 := [(r, .inr (9, [.ref lt, .int (nI xs.length)])), (lt, .inl (cy 0, R, .inl f)), (r2, .inr (9, [.ref lt2, .int (nI ys.length)])), (lt2, .inl (cy 0, R2, .inl g))]) [0, 1, 2, 3] rfl (by decide) ?_
      refine j_iload_n C rfl 0 rfl dX7_turnOfCore_38 ?_
      refine j_iload_n C rfl 1 rfl dX7_turnOfCore_39 ?_
      refine j_resi (k1 := 0) (n1 := 0) C (j_runV C (c_X7_isTurned (t := i) hR hR2 (by omega) (by omega) (by omega) h6 hy6 hf hg hxR hyR) gX7_turnOfCore_X7_isTurned rfl hdV_X7_isTurned ⟨Nat.le_of_ble_eq_true rfl, Nat.le_of_ble_eq_true rfl⟩ ⟨Nat.le_of_ble_eq_true rfl, Nat.le_of_ble_eq_true rfl⟩ 0 rfl rfl rfl [0, 1, 2, 3] rfl (by decide) rfl (Nat.le_of_ble_eq_true rfl) dX7_turnOfCore_40) (wr := []) [] rfl (by decide) (by decide) (Nat.le_refl _) (Nat.le_refl _) (fun v u hv => ?_)
      rcases hv with ⟨rfl, hv⟩ | ⟨rfl, hv⟩
      · refine j_if_eq C (P := False) (by decide) (tgt := 48) (by decide) dX7_turnOfCore_43 (fun h9 => h9.elim) (fun _ => ?_)
        have hit : i = t := Nat.le_antisymm hi (Nat.le_of_not_lt fun z => hT.2.2 i z hv)
        subst hit
        refine j_iload_n C rfl 0 rfl dX7_turnOfCore_46 ?_
        exact j_iret C rfl (rfl) (()) (rfl) [0, 1, 2, 3] rfl (by decide) (Nat.le_of_ble_eq_true rfl) (Nat.le_of_ble_eq_true rfl) dX7_turnOfCore_47
      · refine j_if_eq C (P := True) (by decide) (tgt := 48) (by decide) dX7_turnOfCore_43 (fun _ => ?_) (fun h9 => absurd trivial h9)
        have hit : i ≠ t := fun z => hv (by rw [z]; exact hT.2.1)
        refine j_iinc C (v := (nI (i + 1))) (lo1 := [(3, .int (nI (i + 1))), (2, .int (nI core)), (0, .ref r), (1, .ref r2)]) 0 rfl (fx_inc i 1) (by decide) rfl dX7_turnOfCore_48 ?_
        refine j_goto C (tgt := 23) (by decide) dX7_turnOfCore_51 ?_
        refine j_lo (lo1 := [(3, .int (nI (i + 1))), (2, .int (nI core)), (0, .ref r), (1, .ref r2)]) [0, 1, 2, 3] rfl ?_
        exact ih (i + 1) (by omega) (by omega)
  exact lp (core + 1) 0 (by omega) (by omega)
set_option maxHeartbeats 4000000 in
set_option maxRecDepth 100000 in
/-- turnOfCore: no core -/
theorem c_X7_turnOfCore0 {l : Launch} {G : va_G} {cy : Nat → ClassId} {r lt R r2 lt2 R2 : Nat} {xs ys : List Nat} {f g : Nat → Int32} (hR : R < 2 ^ 20) (hR2 : R2 < 2 ^ 20) {e1 e2 : Nat} (he1 : IsE xs e1) (he2 : IsE ys e2) (hc1 : xs.length = 2 * e1) (hc2 : ys.length = 2 * e2) (h6 : L6 xs) (hy6 : L6 ys) (hf : Hd f xs) (hg : Hd g ys) (hxR : xs.length ≤ R) (hyR : ys.length ≤ R2)  : Ki l yX7_turnOfCore wsX7_turnOfCore G cy [.ref r, .ref r2] [(r, .inr (9, [.ref lt, .int (nI xs.length)])), (lt, .inl (cy 0, R, .inl f)), (r2, .inr (9, [.ref lt2, .int (nI ys.length)])), (lt2, .inl (cy 0, R2, .inl g))] (fun (v : Int32) (_ : Unit) => v = nI 0) (fun _ => [(r, .inr (9, [.ref lt, .int (nI xs.length)])), (lt, .inl (cy 0, R, .inl f)), (r2, .inr (9, [.ref lt2, .int (nI ys.length)])), (lt2, .inl (cy 0, R2, .inl g))]) 2 0 0 41 := by
  refine Ki_of (cc := cX7_turnOfCore) (nL := 4) (by decide) rfl (Nat.le_of_ble_eq_true rfl) ?_
  intro p e s m args below meth c A C hnm
  refine j_lo (lo1 := [(0, .ref r), (1, .ref r2)]) [0, 1] rfl ?_
  have hle1 := IsE_le he1
  have hle2 := IsE_le he2
  refine j_aload_n C rfl 0 rfl dX7_turnOfCore_0 ?_
  refine j_resi (k1 := 0) (n1 := 0) C (j_runV C (c_X7_coreSize hR he1 h6 hf hxR) gX7_turnOfCore_X7_coreSize rfl hdV_X7_coreSize ⟨Nat.le_of_ble_eq_true rfl, Nat.le_of_ble_eq_true rfl⟩ ⟨Nat.le_of_ble_eq_true rfl, Nat.le_of_ble_eq_true rfl⟩ 0 rfl rfl rfl [0, 1] rfl (by decide) rfl (Nat.le_of_ble_eq_true rfl) dX7_turnOfCore_1) (wr := [(r2, .inr (9, [.ref lt2, .int (nI ys.length)])), (lt2, .inl (cy 0, R2, .inl g))]) [2, 3] rfl (by decide) (by decide) (Nat.le_refl _) (Nat.le_refl _) (fun v u hv => ?_)
  subst hv
  refine j_ws (ws1 := [(r, .inr (9, [.ref lt, .int (nI xs.length)])), (lt, .inl (cy 0, R, .inl f)), (r2, .inr (9, [.ref lt2, .int (nI ys.length)])), (lt2, .inl (cy 0, R2, .inl g))]) [2, 3, 0, 1] rfl (by decide) ?_
  refine j_istore_n C (lo1 := [(2, .int (nI (xs.length - 2 * e1))), (0, .ref r), (1, .ref r2)]) rfl (by decide) rfl dX7_turnOfCore_4 ?_
  refine j_iload_n C rfl 0 rfl dX7_turnOfCore_5 ?_
  refine j_aload_n C rfl 2 rfl dX7_turnOfCore_6 ?_
  refine j_resi (k1 := 0) (n1 := 0) C (j_runV C (c_X7_coreSize hR2 he2 hy6 hg hyR) gX7_turnOfCore_X7_coreSize rfl hdV_X7_coreSize ⟨Nat.le_of_ble_eq_true rfl, Nat.le_of_ble_eq_true rfl⟩ ⟨Nat.le_of_ble_eq_true rfl, Nat.le_of_ble_eq_true rfl⟩ 2 rfl rfl rfl [2, 3] rfl (by decide) rfl (Nat.le_of_ble_eq_true rfl) dX7_turnOfCore_7) (wr := [(r, .inr (9, [.ref lt, .int (nI xs.length)])), (lt, .inl (cy 0, R, .inl f))]) [0, 1] rfl (by decide) (by decide) (Nat.le_refl _) (Nat.le_refl _) (fun v u hv => ?_)
  subst hv
  refine j_ws (ws1 := [(r, .inr (9, [.ref lt, .int (nI xs.length)])), (lt, .inl (cy 0, R, .inl f)), (r2, .inr (9, [.ref lt2, .int (nI ys.length)])), (lt2, .inl (cy 0, R2, .inl g))]) [0, 1, 2, 3] rfl (by decide) ?_
  refine j_icmp_eq C (P := xs.length - 2 * e1 = ys.length - 2 * e2) (nI_eq (by omega) (by omega)) (tgt := 15) (by decide) dX7_turnOfCore_10 (fun ht => ?_) (fun hq => absurd hq (by omega))
  refine j_iload_n C rfl 0 rfl dX7_turnOfCore_15 ?_
  refine j_if_ne C (P := xs.length - 2 * e1 = 0) (fx_eq0 (by omega)) (tgt := 21) (by decide) dX7_turnOfCore_16 (fun ha => absurd ha (by omega)) (fun hb => ?_)
  refine j_iconst C (v := (nI 0)) (by decide +kernel) dX7_turnOfCore_19 ?_
  exact j_iret C rfl (rfl) (()) (rfl) [0, 1, 2, 3] rfl (by decide) (Nat.le_of_ble_eq_true rfl) (Nat.le_of_ble_eq_true rfl) dX7_turnOfCore_20
set_option maxHeartbeats 4000000 in
set_option maxRecDepth 100000 in
/-- turnOfCore: cores of another length -/
theorem c_X7_turnOfCoreN {l : Launch} {G : va_G} {cy : Nat → ClassId} {r lt R r2 lt2 R2 : Nat} {xs ys : List Nat} {f g : Nat → Int32} (hR : R < 2 ^ 20) (hR2 : R2 < 2 ^ 20) {e1 e2 : Nat} (he1 : IsE xs e1) (he2 : IsE ys e2) (hcn : xs.length - 2 * e1 ≠ ys.length - 2 * e2) (h6 : L6 xs) (hy6 : L6 ys) (hf : Hd f xs) (hg : Hd g ys) (hxR : xs.length ≤ R) (hyR : ys.length ≤ R2)  : Ki l yX7_turnOfCore wsX7_turnOfCore G cy [.ref r, .ref r2] [(r, .inr (9, [.ref lt, .int (nI xs.length)])), (lt, .inl (cy 0, R, .inl f)), (r2, .inr (9, [.ref lt2, .int (nI ys.length)])), (lt2, .inl (cy 0, R2, .inl g))] (fun (v : Int32) (_ : Unit) => v = -1) (fun _ => [(r, .inr (9, [.ref lt, .int (nI xs.length)])), (lt, .inl (cy 0, R, .inl f)), (r2, .inr (9, [.ref lt2, .int (nI ys.length)])), (lt2, .inl (cy 0, R2, .inl g))]) 2 0 0 41 := by
  refine Ki_of (cc := cX7_turnOfCore) (nL := 4) (by decide) rfl (Nat.le_of_ble_eq_true rfl) ?_
  intro p e s m args below meth c A C hnm
  refine j_lo (lo1 := [(0, .ref r), (1, .ref r2)]) [0, 1] rfl ?_
  have hle1 := IsE_le he1
  have hle2 := IsE_le he2
  refine j_aload_n C rfl 0 rfl dX7_turnOfCore_0 ?_
  refine j_resi (k1 := 0) (n1 := 0) C (j_runV C (c_X7_coreSize hR he1 h6 hf hxR) gX7_turnOfCore_X7_coreSize rfl hdV_X7_coreSize ⟨Nat.le_of_ble_eq_true rfl, Nat.le_of_ble_eq_true rfl⟩ ⟨Nat.le_of_ble_eq_true rfl, Nat.le_of_ble_eq_true rfl⟩ 0 rfl rfl rfl [0, 1] rfl (by decide) rfl (Nat.le_of_ble_eq_true rfl) dX7_turnOfCore_1) (wr := [(r2, .inr (9, [.ref lt2, .int (nI ys.length)])), (lt2, .inl (cy 0, R2, .inl g))]) [2, 3] rfl (by decide) (by decide) (Nat.le_refl _) (Nat.le_refl _) (fun v u hv => ?_)
  subst hv
  refine j_ws (ws1 := [(r, .inr (9, [.ref lt, .int (nI xs.length)])), (lt, .inl (cy 0, R, .inl f)), (r2, .inr (9, [.ref lt2, .int (nI ys.length)])), (lt2, .inl (cy 0, R2, .inl g))]) [2, 3, 0, 1] rfl (by decide) ?_
  refine j_istore_n C (lo1 := [(2, .int (nI (xs.length - 2 * e1))), (0, .ref r), (1, .ref r2)]) rfl (by decide) rfl dX7_turnOfCore_4 ?_
  refine j_iload_n C rfl 0 rfl dX7_turnOfCore_5 ?_
  refine j_aload_n C rfl 2 rfl dX7_turnOfCore_6 ?_
  refine j_resi (k1 := 0) (n1 := 0) C (j_runV C (c_X7_coreSize hR2 he2 hy6 hg hyR) gX7_turnOfCore_X7_coreSize rfl hdV_X7_coreSize ⟨Nat.le_of_ble_eq_true rfl, Nat.le_of_ble_eq_true rfl⟩ ⟨Nat.le_of_ble_eq_true rfl, Nat.le_of_ble_eq_true rfl⟩ 2 rfl rfl rfl [2, 3] rfl (by decide) rfl (Nat.le_of_ble_eq_true rfl) dX7_turnOfCore_7) (wr := [(r, .inr (9, [.ref lt, .int (nI xs.length)])), (lt, .inl (cy 0, R, .inl f))]) [0, 1] rfl (by decide) (by decide) (Nat.le_refl _) (Nat.le_refl _) (fun v u hv => ?_)
  subst hv
  refine j_ws (ws1 := [(r, .inr (9, [.ref lt, .int (nI xs.length)])), (lt, .inl (cy 0, R, .inl f)), (r2, .inr (9, [.ref lt2, .int (nI ys.length)])), (lt2, .inl (cy 0, R2, .inl g))]) [0, 1, 2, 3] rfl (by decide) ?_
  refine j_icmp_eq C (P := xs.length - 2 * e1 = ys.length - 2 * e2) (nI_eq (by omega) (by omega)) (tgt := 15) (by decide) dX7_turnOfCore_10 (fun ht => absurd ht (by omega)) (fun hq => ?_)
  refine j_iconst C (v := (-1)) (by decide +kernel) dX7_turnOfCore_13 ?_
  exact j_iret C rfl (rfl) (()) (rfl) [0, 1, 2, 3] rfl (by decide) (Nat.le_of_ble_eq_true rfl) (Nat.le_of_ble_eq_true rfl) dX7_turnOfCore_14
theorem c_X7_turnU {l : Launch} {G : va_G} {cy : Nat → ClassId} {r lt R r2 lt2 R2 : Nat} {xs ys : List Nat} {f g : Nat → Int32} (hR : R < 2 ^ 20) (hR2 : R2 < 2 ^ 20) {e1 e2 t core : Nat} (he1 : IsE xs e1) (he2 : IsE ys e2) (hc1 : xs.length = 2 * e1 + core) (hc2 : ys.length = 2 * e2 + core) (hT : (core = 0 ∧ t = 0) ∨ IsT xs e1 ys e2 core t) (h6 : L6 xs) (hy6 : L6 ys) (hf : Hd f xs) (hg : Hd g ys) (hxR : xs.length ≤ R) (hyR : ys.length ≤ R2)  : Ki l yX7_turnOfCore wsX7_turnOfCore G cy [.ref r, .ref r2] [(r, .inr (9, [.ref lt, .int (nI xs.length)])), (lt, .inl (cy 0, R, .inl f)), (r2, .inr (9, [.ref lt2, .int (nI ys.length)])), (lt2, .inl (cy 0, R2, .inl g))] (fun (v : Int32) (_ : Unit) => v = nI t) (fun _ => [(r, .inr (9, [.ref lt, .int (nI xs.length)])), (lt, .inl (cy 0, R, .inl f)), (r2, .inr (9, [.ref lt2, .int (nI ys.length)])), (lt2, .inl (cy 0, R2, .inl g))]) 2 0 0 41 := by
  rcases hT with ⟨h0, ht⟩ | hT
  · subst h0; subst ht
    exact c_X7_turnOfCore0 hR hR2 he1 he2 hc1 hc2 h6 hy6 hf hg hxR hyR
  · exact c_X7_turnOfCore hR hR2 he1 he2 hc1 hc2 hT h6 hy6 hf hg hxR hyR
