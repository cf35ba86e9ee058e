theorem fx_nn {n : Nat} (h : n < 2 ^ 31) : ¬ nI n < 0 := nI_pos h
set_option maxRecDepth 100000 in
theorem fin_X7_init_RX7 : ∀ w ∈ u_ws RX7 TX7 2, w ∈ wsX7_init := by decide +kernel
set_option maxHeartbeats 4000000 in
set_option maxRecDepth 100000 in
/-- Row(R): a row of R places, no letter in it -/
theorem c_X7_init {l : Launch} {G : va_G} {cy : Nat → ClassId} {r R : Nat} (hR0 : 0 < R) (hR : R < 2 ^ 20) : Kv l yX7_init wsX7_init G cy [.ref r, .int (nI R)] [(r, .inr (9, [.null, .int (nI 0)]))] (fun (_ : Nat) => True) (fun q => [(r, .inr (9, [.ref q, .int (nI 0)])), (q, .inl (cy 0, R, .inl (fun _ => 0)))]) 1 1 R 20 := by
  refine Kv_of (cc := cX7_init) (nL := 2) (by decide) rfl (Nat.le_of_ble_eq_true rfl) ?_
  intro p e s m args below meth c A C hnm
  refine j_lo (lo1 := [(0, .ref r), (1, .int (nI R))]) [0, 1] rfl ?_
  refine j_aload_n C rfl 0 rfl dX7_init_0 ?_
  refine j_oinit C (by decide +kernel) (by decide +kernel) (by decide +kernel) (Nat.le_of_ble_eq_true rfl) (Nat.le_of_ble_eq_true rfl) dX7_init_1 ?_
  refine j_aload_n C rfl 0 rfl dX7_init_4 ?_
  refine j_iload_n C rfl 1 rfl dX7_init_5 ?_
  refine j_if_le C (P := R = 0) (fx_le0 (by omega)) (tgt := 13) (by decide) dX7_init_6 (fun ht => absurd ht (by omega)) (fun hq => ?_)
  refine j_iload_n C rfl 1 rfl dX7_init_9 ?_
  refine j_goto C (tgt := 14) (by decide) dX7_init_10 ?_
  refine j_newa C (at9 := .byte) 0 (by decide +kernel) rfl rfl (N := R) (a0 := (R, .inl (fun _ => 0))) (k1 := 1) (n1 := R) (fun _ => rfl) (nI_pos (by omega)) (nI_clamp (by omega)) (by show R * 1 ≤ _; omega) (Nat.le_of_ble_eq_true rfl) (by show 0 + R ≤ R; omega) (by decide) (by omega) dX7_init_14 (fun q => ?_)
  refine j_putF C (Cn := RX7) (T := TX7) (ty := tyX7) (N := 2) (ws1 := [(r, .inr (9, [.ref q, .int (nI 0)])), (q, .inl (cy 0, R, .inl (fun _ => 0)))]) fin_X7_init_RX7 tyX7_ok nmX7 0 rfl rfl 0 (by decide) (by decide +kernel) rfl hnm rfl rfl rfl (Nat.le_of_ble_eq_true rfl) rfl dX7_init_16 ?_
  exact j_vret C q trivial [0, 1] rfl (by decide) (Nat.le_refl _) (Nat.le_refl _) dX7_init_19
set_option maxRecDepth 100000 in
theorem fin_X7_clear_RX7 : ∀ w ∈ u_ws RX7 TX7 2, w ∈ wsX7_clear := by decide +kernel
set_option maxHeartbeats 4000000 in
set_option maxRecDepth 100000 in
theorem c_X7_clear {l : Launch} {G : va_G} {cy : Nat → ClassId} {r lt : Nat} {n : Int32} : Kv l yX7_clear wsX7_clear G cy [.ref r] [(r, .inr (9, [.ref lt, .int n]))] (fun (_ : Unit) => True) (fun _ => [(r, .inr (9, [.ref lt, .int (nI 0)]))]) 0 0 0 0 := by
  refine Kv_of (cc := cX7_clear) (nL := 1) (by decide) rfl (Nat.le_of_ble_eq_true rfl) ?_
  intro p e s m args below meth c A C hnm
  refine j_lo (lo1 := [(0, .ref r)]) [0] rfl ?_
  refine j_aload_n C rfl 0 rfl dX7_clear_0 ?_
  refine j_iconst C (v := (nI 0)) (by decide +kernel) dX7_clear_1 ?_
  refine j_putf C (Cn := RX7) (T := TX7) (ty := tyX7) (N := 2) (ws1 := [(r, .inr (9, [.ref lt, .int (nI 0)]))]) fin_X7_clear_RX7 tyX7_ok nmX7 0 rfl rfl 1 (by decide) (by decide +kernel) rfl rfl rfl (Nat.le_of_ble_eq_true rfl) rfl dX7_clear_2 ?_
  exact j_vret C (()) (trivial) [0] rfl (by decide) (Nat.le_of_ble_eq_true rfl) (Nat.le_of_ble_eq_true rfl) dX7_clear_5
set_option maxRecDepth 100000 in
theorem fin_X7_add_RX7 : ∀ w ∈ u_ws RX7 TX7 2, w ∈ wsX7_add := by decide +kernel
set_option maxHeartbeats 4000000 in
set_option maxRecDepth 100000 in
/-- add: the letter cancels the last one, or comes behind it -/
theorem c_X7_add {l : Launch} {G : va_G} {cy : Nat → ClassId} {r lt R : Nat} {xs : List Nat} {f : Nat → Int32} (hR : R < 2 ^ 20) {a : Nat} (hx : xs.length < R) (h6 : L6 xs) (ha : a < 6) (hf : Hd f xs) : Kv l yX7_add wsX7_add G cy [.ref r, .int (nI a)] [(r, .inr (9, [.ref lt, .int (nI xs.length)])), (lt, .inl (cy 0, R, .inl f))] (fun g : Nat → Int32 => Hd g (psh xs a)) (fun g => [(r, .inr (9, [.ref lt, .int (nI ((psh xs a).length))])), (lt, .inl (cy 0, R, .inl g))]) 0 0 0 0 := by
  refine Kv_of (cc := cX7_add) (nL := 2) (by decide) rfl (Nat.le_of_ble_eq_true rfl) ?_
  intro p e s m args below meth c A C hnm
  refine j_lo (lo1 := [(0, .ref r), (1, .int (nI a))]) [0, 1] rfl ?_
  refine j_aload_n C rfl 0 rfl dX7_add_0 ?_
  refine j_getf C (Cn := RX7) (T := TX7) (N := 2) fin_X7_add_RX7 0 rfl rfl 1 (by decide) (by decide +kernel) rfl dX7_add_1 ?_
  refine j_if_le C (P := xs.length = 0) (fx_le0 (by omega)) (tgt := 37) (by decide) dX7_add_4 (fun h0 => ?_) (fun h0 => ?_)
  · have hpo : psh xs a = xs ++ [a] := psh_other (fun h => absurd h (by omega))
    have hlen : (psh xs a).length = xs.length + 1 := by rw [hpo, List.length_append]; rfl
    refine j_aload_n C rfl 0 rfl dX7_add_37 ?_
    refine j_getf C (Cn := RX7) (T := TX7) (N := 2) fin_X7_add_RX7 0 rfl rfl 1 (by decide) (by decide +kernel) rfl dX7_add_38 ?_
    refine j_aload_n C rfl 0 rfl dX7_add_41 ?_
    refine j_getf C (Cn := RX7) (T := TX7) (N := 2) fin_X7_add_RX7 0 rfl rfl 0 (by decide) (by decide +kernel) rfl dX7_add_42 ?_
    refine j_alen C 1 0 rfl rfl (v := (nI R)) rfl dX7_add_45 ?_
    refine j_icmp_ge C (P := R ≤ xs.length) (nI_leI (by omega) (by omega)) (tgt := 70) (by decide) dX7_add_46 (fun ht => absurd ht (by omega)) (fun hq => ?_)
    refine j_aload_n C rfl 0 rfl dX7_add_49 ?_
    refine j_getf C (Cn := RX7) (T := TX7) (N := 2) fin_X7_add_RX7 0 rfl rfl 0 (by decide) (by decide +kernel) rfl dX7_add_50 ?_
    refine j_aload_n C rfl 0 rfl dX7_add_53 ?_
    refine j_getf C (Cn := RX7) (T := TX7) (N := 2) fin_X7_add_RX7 0 rfl rfl 1 (by decide) (by decide +kernel) rfl dX7_add_54 ?_
    refine j_iload_n C rfl 1 rfl dX7_add_57 ?_
    refine j_i2b C (v := (nI a)) (fx_byte (by omega)) dX7_add_58 ?_
    refine j_bast C 1 rfl (j := xs.length) (by omega) (by omega) (fx_nar (by omega)) (ws1 := [(r, .inr (9, [.ref lt, .int (nI xs.length)])), (lt, .inl (cy 0, R, .inl (upd f xs.length (nI a))))]) rfl dX7_add_59 ?_
    refine j_aload_n C rfl 0 rfl dX7_add_60 ?_
    refine j_dup C rfl dX7_add_61 ?_
    refine j_getf C (Cn := RX7) (T := TX7) (N := 2) fin_X7_add_RX7 0 rfl rfl 1 (by decide) (by decide +kernel) rfl dX7_add_62 ?_
    refine j_iconst C (v := (nI 1)) (by decide +kernel) dX7_add_65 ?_
    refine j_iadd C (v := (nI (xs.length + 1))) (fx_add xs.length 1) dX7_add_66 ?_
    refine j_putf C (Cn := RX7) (T := TX7) (ty := tyX7) (N := 2) (ws1 := [(r, .inr (9, [.ref lt, .int (nI (xs.length + 1))])), (lt, .inl (cy 0, R, .inl (upd f xs.length (nI a))))]) fin_X7_add_RX7 tyX7_ok nmX7 0 rfl rfl 1 (by decide) (by decide +kernel) rfl rfl rfl (Nat.le_of_ble_eq_true rfl) rfl dX7_add_67 ?_
    exact j_vret C (upd f xs.length (nI a)) (by rw [hpo]; exact Hd_put hf) [0, 1] (by rw [hlen]; rfl) (by decide) (Nat.le_of_ble_eq_true rfl) (Nat.le_of_ble_eq_true rfl) dX7_add_70
  · refine j_aload_n C rfl 0 rfl dX7_add_7 ?_
    refine j_getf C (Cn := RX7) (T := TX7) (N := 2) fin_X7_add_RX7 0 rfl rfl 0 (by decide) (by decide +kernel) rfl dX7_add_8 ?_
    refine j_aload_n C rfl 0 rfl dX7_add_11 ?_
    refine j_getf C (Cn := RX7) (T := TX7) (N := 2) fin_X7_add_RX7 0 rfl rfl 1 (by decide) (by decide +kernel) rfl dX7_add_12 ?_
    refine j_iconst C (v := (nI 1)) (by decide +kernel) dX7_add_15 ?_
    refine j_isub C (v := (nI (xs.length - 1))) (pk_sub (by omega)) dX7_add_16 ?_
    refine j_bald C 1 rfl (j := xs.length - 1) (by omega) (by omega) (v := (nI (gd xs (xs.length - 1)))) (hf _ (by omega)) dX7_add_17 ?_
    refine j_iload_n C rfl 1 rfl dX7_add_18 ?_
    refine j_iconst C (v := (nI 1)) (by decide +kernel) dX7_add_19 ?_
    refine j_ixor C (v := (nI (fv a))) (fx_fv a) dX7_add_20 ?_
    have hfv := fv_lt a ha
    have hl6 := h6 (xs.length - 1) (by omega)
    refine j_icmp_ne C (P := gd xs (xs.length - 1) = fv a) (nI_eq (by omega) (by omega)) (tgt := 37) (by decide) dX7_add_21 (fun ht => ?_) (fun hq => ?_)
    · have hpo : psh xs a = xs ++ [a] := psh_other (fun _ z => ht z)
      have hlen : (psh xs a).length = xs.length + 1 := by rw [hpo, List.length_append]; rfl
      refine j_aload_n C rfl 0 rfl dX7_add_37 ?_
      refine j_getf C (Cn := RX7) (T := TX7) (N := 2) fin_X7_add_RX7 0 rfl rfl 1 (by decide) (by decide +kernel) rfl dX7_add_38 ?_
      refine j_aload_n C rfl 0 rfl dX7_add_41 ?_
      refine j_getf C (Cn := RX7) (T := TX7) (N := 2) fin_X7_add_RX7 0 rfl rfl 0 (by decide) (by decide +kernel) rfl dX7_add_42 ?_
      refine j_alen C 1 0 rfl rfl (v := (nI R)) rfl dX7_add_45 ?_
      refine j_icmp_ge C (P := R ≤ xs.length) (nI_leI (by omega) (by omega)) (tgt := 70) (by decide) dX7_add_46 (fun ht => absurd ht (by omega)) (fun hq => ?_)
      refine j_aload_n C rfl 0 rfl dX7_add_49 ?_
      refine j_getf C (Cn := RX7) (T := TX7) (N := 2) fin_X7_add_RX7 0 rfl rfl 0 (by decide) (by decide +kernel) rfl dX7_add_50 ?_
      refine j_aload_n C rfl 0 rfl dX7_add_53 ?_
      refine j_getf C (Cn := RX7) (T := TX7) (N := 2) fin_X7_add_RX7 0 rfl rfl 1 (by decide) (by decide +kernel) rfl dX7_add_54 ?_
      refine j_iload_n C rfl 1 rfl dX7_add_57 ?_
      refine j_i2b C (v := (nI a)) (fx_byte (by omega)) dX7_add_58 ?_
      refine j_bast C 1 rfl (j := xs.length) (by omega) (by omega) (fx_nar (by omega)) (ws1 := [(r, .inr (9, [.ref lt, .int (nI xs.length)])), (lt, .inl (cy 0, R, .inl (upd f xs.length (nI a))))]) rfl dX7_add_59 ?_
      refine j_aload_n C rfl 0 rfl dX7_add_60 ?_
      refine j_dup C rfl dX7_add_61 ?_
      refine j_getf C (Cn := RX7) (T := TX7) (N := 2) fin_X7_add_RX7 0 rfl rfl 1 (by decide) (by decide +kernel) rfl dX7_add_62 ?_
      refine j_iconst C (v := (nI 1)) (by decide +kernel) dX7_add_65 ?_
      refine j_iadd C (v := (nI (xs.length + 1))) (fx_add xs.length 1) dX7_add_66 ?_
      refine j_putf C (Cn := RX7) (T := TX7) (ty := tyX7) (N := 2) (ws1 := [(r, .inr (9, [.ref lt, .int (nI (xs.length + 1))])), (lt, .inl (cy 0, R, .inl (upd f xs.length (nI a))))]) fin_X7_add_RX7 tyX7_ok nmX7 0 rfl rfl 1 (by decide) (by decide +kernel) rfl rfl rfl (Nat.le_of_ble_eq_true rfl) rfl dX7_add_67 ?_
      exact j_vret C (upd f xs.length (nI a)) (by rw [hpo]; exact Hd_put hf) [0, 1] (by rw [hlen]; rfl) (by decide) (Nat.le_of_ble_eq_true rfl) (Nat.le_of_ble_eq_true rfl) dX7_add_70
    · obtain ⟨hlen, hHd⟩ := psh_last (a := a) (by omega) hq
      refine j_aload_n C rfl 0 rfl dX7_add_24 ?_
      refine j_dup C rfl dX7_add_25 ?_
      refine j_getf C (Cn := RX7) (T := TX7) (N := 2) fin_X7_add_RX7 0 rfl rfl 1 (by decide) (by decide +kernel) rfl dX7_add_26 ?_
      refine j_iconst C (v := (nI 1)) (by decide +kernel) dX7_add_29 ?_
      refine j_isub C (v := (nI (xs.length - 1))) (pk_sub (by omega)) dX7_add_30 ?_
      refine j_putf C (Cn := RX7) (T := TX7) (ty := tyX7) (N := 2) (ws1 := [(r, .inr (9, [.ref lt, .int (nI (xs.length - 1))])), (lt, .inl (cy 0, R, .inl f))]) fin_X7_add_RX7 tyX7_ok nmX7 0 rfl rfl 1 (by decide) (by decide +kernel) rfl rfl rfl (Nat.le_of_ble_eq_true rfl) rfl dX7_add_31 ?_
      refine j_goto C (tgt := 70) (by decide) dX7_add_34 ?_
      exact j_vret C f (hHd f hf) [0, 1] (by rw [hlen]; rfl) (by decide) (Nat.le_of_ble_eq_true rfl) (Nat.le_of_ble_eq_true rfl) dX7_add_70
