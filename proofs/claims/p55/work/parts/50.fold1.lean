/-- the sign of a letter -/
def sg (j : Nat) : Int32 := [97, 65, 98, 66, 99, 67].getD j 0
theorem sg_eq : ∀ i, i < 6 → ∀ k, k < 6 → (sg i = sg k ↔ i = k) := by decide +kernel
theorem sg_nar : ∀ i, i < 6 → narrow .char (.int (sg i)) = .int (sg i) := by decide +kernel
theorem sg_fz (j : Nat) : fz_sg j = .int (sg j) := rfl
set_option maxHeartbeats 4000000 in
set_option maxRecDepth 100000 in
/-- codeOf -/
theorem c_X9_codeOf {l : Launch} {G : va_G} {cy : Nat → ClassId} {h k : Nat} {c9 : Int32} (hk : k < 6) (hc9 : c9 = sg k) : Ki l yX9_codeOf wsX9_codeOf G cy [.ref h, .int c9] [] (fun (v : Int32) (_ : Unit) => v = nI k) (fun _ => []) 0 0 0 0 := by
  refine Ki_of (cc := cX9_codeOf) (nL := 3) (by decide) rfl (Nat.le_of_ble_eq_true rfl) ?_
  intro p e s m args below meth c A C hnm
  refine j_lo (lo1 := [(0, .ref h), (1, .int c9)]) [0, 1] rfl ?_
  have lp : ∀ (d9 : Nat) (i : Nat), k + 1 - i < d9 → (i ≤ k) → J p l e (fz_rm 0 0 0 0) s m args below meth c (MQ below (va_Qi (fun (v : Int32) (_ : Unit) => v = nI k) (fz_B G (fun _ => []) A) A) args s 0 0 A) G A 3 [] 0 0 2 [(2, .int (nI i)), (1, .int c9)] [] := by
    intro d9
    induction d9 with
    | zero => intro i hd9; exact absurd hd9 (Nat.not_lt_zero _)
    | succ d9 ih =>
      intro i hd9 hi
      refine j_iload_n C rfl 0 rfl dX9_codeOf_2 ?_
      refine j_bipush C (v := (nI 6)) (by decide +kernel) dX9_codeOf_3 ?_
      refine j_icmp_ge C (P := 6 ≤ i) (nI_leI (by omega) (by omega)) (tgt := 25) (by decide) dX9_codeOf_5 (fun ht => ?_) (fun hq => ?_)
      · exact absurd ht (by omega)
      · refine j_gsg C (by decide +kernel) dX9_codeOf_8 (fun t9 hT => ?_)
        refine j_iload_n C rfl 0 rfl dX9_codeOf_11 ?_
        refine j_cald C hT (j := i) (by omega) (by omega) (v := .int (sg i)) (sg_fz i) dX9_codeOf_12 ?_
        refine j_iload_n C rfl 1 rfl dX9_codeOf_13 ?_
        refine j_icmp_ne C (P := i = k) (by rw [hc9]; exact sg_eq i (by omega) k hk) (tgt := 19) (by decide) dX9_codeOf_14 (fun ha => ?_) (fun hb => ?_)
        · refine j_iinc C (v := (nI (i + 1))) (lo1 := [(2, .int (nI (i + 1))), (1, .int c9)]) 0 rfl (fx_inc i 1) (by decide) rfl dX9_codeOf_19 ?_
          refine j_goto C (tgt := 2) (by decide) dX9_codeOf_22 ?_
          refine j_lo (lo1 := [(2, .int (nI (i + 1))), (1, .int c9)]) [0, 1] rfl ?_
          exact ih (i + 1) (by omega) (by omega)
        · subst hb
          refine j_iload_n C rfl 0 rfl dX9_codeOf_17 ?_
          exact j_iret C rfl (rfl) (()) (rfl) [] rfl (by decide) (Nat.le_of_ble_eq_true rfl) (Nat.le_of_ble_eq_true rfl) dX9_codeOf_18
  refine j_iconst C (v := (nI 0)) (by decide +kernel) dX9_codeOf_0 ?_
  refine j_istore_n C (lo1 := [(2, .int (nI 0)), (0, .ref h), (1, .int c9)]) rfl (by decide) rfl dX9_codeOf_1 ?_
  refine j_lo (lo1 := [(2, .int (nI 0)), (1, .int c9)]) [0, 2] rfl ?_
  exact lp (k + 2) 0 (by omega) (by omega)
set_option maxHeartbeats 4000000 in
set_option maxRecDepth 100000 in
/-- codeOf: no such letter -/
theorem x_X9_codeOf {l : Launch} {G : va_G} {cy : Nat → ClassId} (hl9 : l.stackTraces = false) {h : Nat} {c9 : Int32} (hne : ∀ i, i < 6 → ¬ sg i = c9) : Kx l yX9_codeOf wsX9_codeOf G cy [.ref h, .int c9] [] "java/lang/IllegalArgumentException" 6 1 6 100 := by
  refine Kx_of (cc := cX9_codeOf) (nL := 3) (by decide) rfl (Nat.le_of_ble_eq_true rfl) ?_
  intro p e s m args below meth c A C hnm htb
  refine j_lo (lo1 := [(0, .ref h), (1, .int c9)]) [0, 1] rfl ?_
  have lp : ∀ (d9 : Nat) (i : Nat), 6 + 1 - i < d9 → (i ≤ 6) → J p l e (fz_rm 6 1 6 100) s m args below meth c (vx_MQ below (va_Qi (fun (_ : Int32) (_ : Unit) => False) (fun _ _ => True) A) (vx_X (fun _ : Unit => True) (fun E9 _ t => E9 = "java/lang/IllegalArgumentException" ∧ va_P G vwCl [] t.heap ∧ va_D A []) A) args s 1 6 A) G A 3 [] 0 0 2 [(2, .int (nI i)), (1, .int c9)] [] := by
    intro d9
    induction d9 with
    | zero => intro i hd9; exact absurd hd9 (Nat.not_lt_zero _)
    | succ d9 ih =>
      intro i hd9 hi
      refine j_iload_n C rfl 0 rfl dX9_codeOf_2 ?_
      refine j_bipush C (v := (nI 6)) (by decide +kernel) dX9_codeOf_3 ?_
      refine j_icmp_ge C (P := 6 ≤ i) (nI_leI (by omega) (by omega)) (tgt := 25) (by decide) dX9_codeOf_5 (fun ht => ?_) (fun hq => ?_)
      · exact j_throw C hl9 (E := "java/lang/IllegalArgumentException") (text := "no such letter") ["java/lang/RuntimeException", "java/lang/Exception"] (ik := 147) (is9 := 126) (ic := 151) (mc := 1) (ms := 6) (by decide +kernel) (by decide +kernel) (by decide +kernel) (by decide +kernel) (by decide +kernel) rfl (by decide +kernel) (by decide +kernel) (by decide +kernel) (by decide +kernel) dX9_codeOf_25 dX9_codeOf_28 dX9_codeOf_29 dX9_codeOf_31 dX9_codeOf_34 htb (Nat.le_of_ble_eq_true rfl) (Nat.le_of_ble_eq_true rfl) (Nat.le_of_ble_eq_true rfl) (Nat.le_of_ble_eq_true rfl) [] rfl (by decide) (Nat.le_of_ble_eq_true rfl) (Nat.le_of_ble_eq_true rfl)
      · refine j_gsg C (by decide +kernel) dX9_codeOf_8 (fun t9 hT => ?_)
        refine j_iload_n C rfl 0 rfl dX9_codeOf_11 ?_
        refine j_cald C hT (j := i) (by omega) (by omega) (v := .int (sg i)) (sg_fz i) dX9_codeOf_12 ?_
        refine j_iload_n C rfl 1 rfl dX9_codeOf_13 ?_
        refine j_icmp_ne C .rfl (tgt := 19) (by decide) dX9_codeOf_14 (fun ha => ?_) (fun hb => absurd hb (hne i (by omega)))
        refine j_iinc C (v := (nI (i + 1))) (lo1 := [(2, .int (nI (i + 1))), (1, .int c9)]) 0 rfl (fx_inc i 1) (by decide) rfl dX9_codeOf_19 ?_
        refine j_goto C (tgt := 2) (by decide) dX9_codeOf_22 ?_
        refine j_lo (lo1 := [(2, .int (nI (i + 1))), (1, .int c9)]) [0, 1] rfl ?_
        exact ih (i + 1) (by omega) (by omega)
  refine j_iconst C (v := (nI 0)) (by decide +kernel) dX9_codeOf_0 ?_
  refine j_istore_n C (lo1 := [(2, .int (nI 0)), (0, .ref h), (1, .int c9)]) rfl (by decide) rfl dX9_codeOf_1 ?_
  refine j_lo (lo1 := [(2, .int (nI 0)), (1, .int c9)]) [0, 2] rfl ?_
  exact lp (6 + 2) 0 (by omega) (by omega)
set_option maxRecDepth 100000 in
theorem fin_X9_wordAt_RX9 : ∀ w ∈ u_ws RX9 TX9 18, w ∈ wsX9_wordAt := by decide +kernel
set_option maxHeartbeats 4000000 in
set_option maxRecDepth 100000 in
/-- wordAt -/
theorem c_X9_wordAt {l : Launch} {G : va_G} {cy : Nat → ClassId} {h ty aw dr se : Nat} {ad : Nat → Nat} {tn : Int32} {wn i a1 : Nat} {g : Nat → Option Nat} (hi : i < wn) (hw : wn ≤ 24) (hg : g i = some a1) : Kr l yX9_wordAt wsX9_wordAt G cy [.ref h, .int (nI i)] [(h, .inr (11, [.ref ty, .int tn, .ref aw, .int (nI wn), .ref (ad 4), .ref (ad 5), .ref (ad 6), .int (nI 0), .ref (ad 8), .int (nI 0), .ref dr, .ref se, .ref (ad 12), .ref (ad 13), .ref (ad 14), .ref (ad 15), .ref (ad 16), .ref (ad 17)])), (aw, .inl (cy 4, 24, .inr (.inr (.inr (.inr g)))))] (fun (_ : Unit) a => a1 = a) (fun _ _ => [(h, .inr (11, [.ref ty, .int tn, .ref aw, .int (nI wn), .ref (ad 4), .ref (ad 5), .ref (ad 6), .int (nI 0), .ref (ad 8), .int (nI 0), .ref dr, .ref se, .ref (ad 12), .ref (ad 13), .ref (ad 14), .ref (ad 15), .ref (ad 16), .ref (ad 17)])), (aw, .inl (cy 4, 24, .inr (.inr (.inr (.inr g)))))]) 0 0 0 0 := by
  refine Kr_of (cc := cX9_wordAt) (nL := 2) (by decide) rfl (Nat.le_of_ble_eq_true rfl) ?_
  intro p e s m args below meth c A C hnm
  refine j_lo (lo1 := [(0, .ref h), (1, .int (nI i))]) [0, 1] rfl ?_
  refine j_iload_n C rfl 1 rfl dX9_wordAt_0 ?_
  refine j_if_lt C (P := False) (fx_lt0 (by omega)) (tgt := 12) (by decide) dX9_wordAt_1 (fun ht => absurd ht (id)) (fun hq => ?_)
  refine j_iload_n C rfl 1 rfl dX9_wordAt_4 ?_
  refine j_aload_n C rfl 0 rfl dX9_wordAt_5 ?_
  refine j_getf C (Cn := RX9) (T := TX9) (N := 18) fin_X9_wordAt_RX9 0 rfl rfl 3 (by decide) (by decide +kernel) rfl dX9_wordAt_6 ?_
  refine j_icmp_lt C (P := i < wn) (nI_ltI (by omega) (by omega)) (tgt := 23) (by decide) dX9_wordAt_9 (fun ht => ?_) (fun hq => absurd hq (by omega))
  refine j_aload_n C rfl 0 rfl dX9_wordAt_23 ?_
  refine j_getf C (Cn := RX9) (T := TX9) (N := 18) fin_X9_wordAt_RX9 0 rfl rfl 2 (by decide) (by decide +kernel) rfl dX9_wordAt_24 ?_
  refine j_iload_n C rfl 1 rfl dX9_wordAt_27 ?_
  refine j_aald C 1 4 rfl rfl (j := i) (by omega) (by omega) (r := a1) (hg) dX9_wordAt_28 ?_
  exact j_aret C rfl (Or.inl ⟨_, rfl⟩) (()) (rfl) [0, 1] rfl (by decide) (Nat.le_of_ble_eq_true rfl) (Nat.le_of_ble_eq_true rfl) dX9_wordAt_29
set_option maxHeartbeats 4000000 in
set_option maxRecDepth 100000 in
/-- wordAt: no such word -/
theorem x_X9_wordAt {l : Launch} {G : va_G} {cy : Nat → ClassId} (hl9 : l.stackTraces = false) {h ty aw dr se : Nat} {ad : Nat → Nat} {tn : Int32} {wn i : Nat} {g : Nat → Option Nat} (hi : wn ≤ i) (hi2 : i < 100) (hw : wn ≤ 24) : Kx l yX9_wordAt wsX9_wordAt G cy [.ref h, .int (nI i)] [(h, .inr (11, [.ref ty, .int tn, .ref aw, .int (nI wn), .ref (ad 4), .ref (ad 5), .ref (ad 6), .int (nI 0), .ref (ad 8), .int (nI 0), .ref dr, .ref se, .ref (ad 12), .ref (ad 13), .ref (ad 14), .ref (ad 15), .ref (ad 16), .ref (ad 17)])), (aw, .inl (cy 4, 24, .inr (.inr (.inr (.inr g)))))] "java/lang/IndexOutOfBoundsException" 6 1 6 100 := by
  refine Kx_of (cc := cX9_wordAt) (nL := 2) (by decide) rfl (Nat.le_of_ble_eq_true rfl) ?_
  intro p e s m args below meth c A C hnm htb
  refine j_lo (lo1 := [(0, .ref h), (1, .int (nI i))]) [0, 1] rfl ?_
  refine j_iload_n C rfl 1 rfl dX9_wordAt_0 ?_
  refine j_if_lt C (P := False) (fx_lt0 (by omega)) (tgt := 12) (by decide) dX9_wordAt_1 (fun ht => absurd ht (id)) (fun hq => ?_)
  refine j_iload_n C rfl 1 rfl dX9_wordAt_4 ?_
  refine j_aload_n C rfl 0 rfl dX9_wordAt_5 ?_
  refine j_getf C (Cn := RX9) (T := TX9) (N := 18) fin_X9_wordAt_RX9 0 rfl rfl 3 (by decide) (by decide +kernel) rfl dX9_wordAt_6 ?_
  refine j_icmp_lt C (P := i < wn) (nI_ltI (by omega) (by omega)) (tgt := 23) (by decide) dX9_wordAt_9 (fun ht => absurd ht (by omega)) (fun hq => ?_)
  exact j_throwW C hl9 (E := "java/lang/IndexOutOfBoundsException") (text := "no such word") ["java/lang/RuntimeException", "java/lang/Exception"] (ik := 387) (is9 := 389) (ic := 391) (mc := 1) (ms := 6) (by decide +kernel) (by decide +kernel) (by decide +kernel) (by decide +kernel) (by decide +kernel) rfl (by decide +kernel) (by decide +kernel) (by decide +kernel) (by decide +kernel) dX9_wordAt_12 dX9_wordAt_15 dX9_wordAt_16 dX9_wordAt_19 dX9_wordAt_22 htb (Nat.le_of_ble_eq_true rfl) (Nat.le_of_ble_eq_true rfl) (Nat.le_of_ble_eq_true rfl) (Nat.le_of_ble_eq_true rfl) [0, 1] rfl (by decide) (Nat.le_of_ble_eq_true rfl) (Nat.le_of_ble_eq_true rfl)
set_option maxRecDepth 100000 in
theorem fin_X9_keep_RX7 : ∀ w ∈ u_ws RX7 TX7 2, w ∈ wsX9_keep := by decide +kernel
set_option maxRecDepth 100000 in
theorem fin_X9_keep_RX9 : ∀ w ∈ u_ws RX9 TX9 18, w ∈ wsX9_keep := by decide +kernel
theorem hdV_X7_set : yX7_set.cls = RX7 ∧ yX7_set.cls ≠ "java/lang/invoke/MethodHandle" ∧ yX7_set.cls ≠ "java/lang/invoke/VarHandle" ∧ (parseMethodDescriptor yX7_set.desc).map (fun d => d.parameters.length) = some 1 := by decide +kernel
set_option maxHeartbeats 4000000 in
set_option maxRecDepth 100000 in
/-- keep -/
theorem c_X9_keep {l : Launch} {G : va_G} {cy : Nat → ClassId} {h ty aw dr se : Nat} {ad : Nat → Nat} {tn dn : Int32} {wn r rl d db R : Nat} {xs : List Nat} {f df : Nat → Int32} {g : Nat → Option Nat} (hw : wn < 24) (hg : g wn = some d) (hR : R < 2 ^ 20) (hx60 : xs.length ≤ 60) (h6 : L6 xs) (hf : Hd f xs) (hxR : xs.length ≤ R) : Ki l yX9_keep wsX9_keep G cy [.ref h, .ref r] [(h, .inr (11, [.ref ty, .int tn, .ref aw, .int (nI wn), .ref (ad 4), .ref (ad 5), .ref (ad 6), .int (nI 0), .ref (ad 8), .int (nI 0), .ref dr, .ref se, .ref (ad 12), .ref (ad 13), .ref (ad 14), .ref (ad 15), .ref (ad 16), .ref (ad 17)])), (aw, .inl (cy 4, 24, .inr (.inr (.inr (.inr g))))), (r, .inr (9, [.ref rl, .int (nI xs.length)])), (rl, .inl (cy 0, R, .inl f)), (d, .inr (9, [.ref db, .int dn])), (db, .inl (cy 0, 60, .inl df))] (fun (v : Int32) (h2 : Nat → Int32) => v = nI wn ∧ Hd h2 xs) (fun h2 => [(h, .inr (11, [.ref ty, .int tn, .ref aw, .int (nI (wn + 1)), .ref (ad 4), .ref (ad 5), .ref (ad 6), .int (nI 0), .ref (ad 8), .int (nI 0), .ref dr, .ref se, .ref (ad 12), .ref (ad 13), .ref (ad 14), .ref (ad 15), .ref (ad 16), .ref (ad 17)])), (aw, .inl (cy 4, 24, .inr (.inr (.inr (.inr g))))), (r, .inr (9, [.ref rl, .int (nI xs.length)])), (rl, .inl (cy 0, R, .inl f)), (d, .inr (9, [.ref db, .int (nI xs.length)])), (db, .inl (cy 0, 60, .inl h2))]) 1 0 0 22 := by
  refine Ki_of (cc := cX9_keep) (nL := 2) (by decide) rfl (Nat.le_of_ble_eq_true rfl) ?_
  intro p e s m args below meth c A C hnm
  refine j_lo (lo1 := [(0, .ref h), (1, .ref r)]) [0, 1] rfl ?_
  refine j_aload_n C rfl 0 rfl dX9_keep_0 ?_
  refine j_getf C (Cn := RX9) (T := TX9) (N := 18) fin_X9_keep_RX9 0 rfl rfl 3 (by decide) (by decide +kernel) rfl dX9_keep_1 ?_
  refine j_bipush C (v := (nI 24)) (by decide +kernel) dX9_keep_4 ?_
  refine j_icmp_lt C (P := wn < 24) (nI_ltI (by omega) (by omega)) (tgt := 20) (by decide) dX9_keep_6 (fun ht => ?_) (fun hq => absurd hq (by omega))
  refine j_aload_n C rfl 1 rfl dX9_keep_20 ?_
  refine j_getf C (Cn := RX7) (T := TX7) (N := 2) fin_X9_keep_RX7 2 rfl rfl 1 (by decide) (by decide +kernel) rfl dX9_keep_21 ?_
  refine j_bipush C (v := (nI 60)) (by decide +kernel) dX9_keep_24 ?_
  refine j_icmp_le C (P := xs.length ≤ 60) (nI_leI (by omega) (by omega)) (tgt := 40) (by decide) dX9_keep_26 (fun ht => ?_) (fun hq => absurd hq (by omega))
  refine j_aload_n C rfl 0 rfl dX9_keep_40 ?_
  refine j_getf C (Cn := RX9) (T := TX9) (N := 18) fin_X9_keep_RX9 0 rfl rfl 2 (by decide) (by decide +kernel) rfl dX9_keep_41 ?_
  refine j_aload_n C rfl 0 rfl dX9_keep_44 ?_
  refine j_getf C (Cn := RX9) (T := TX9) (N := 18) fin_X9_keep_RX9 0 rfl rfl 3 (by decide) (by decide +kernel) rfl dX9_keep_45 ?_
  refine j_aald C 1 4 rfl rfl (j := wn) (by omega) (by omega) (r := d) (hg) dX9_keep_48 ?_
  refine j_aload_n C rfl 1 rfl dX9_keep_49 ?_
  refine j_resv (k1 := 0) (n1 := 0) C (j_runV C (c_X7_set (by decide) hR hx60 h6 hf hxR) gX9_keep_X7_set rfl hdV_X7_set ⟨Nat.le_of_ble_eq_true rfl, Nat.le_of_ble_eq_true rfl⟩ ⟨Nat.le_of_ble_eq_true rfl, Nat.le_of_ble_eq_true rfl⟩ 4 rfl rfl rfl [4, 5, 2, 3] rfl (by decide) rfl (Nat.le_of_ble_eq_true rfl) dX9_keep_50) (wr := [(h, .inr (11, [.ref ty, .int tn, .ref aw, .int (nI wn), .ref (ad 4), .ref (ad 5), .ref (ad 6), .int (nI 0), .ref (ad 8), .int (nI 0), .ref dr, .ref se, .ref (ad 12), .ref (ad 13), .ref (ad 14), .ref (ad 15), .ref (ad 16), .ref (ad 17)])), (aw, .inl (cy 4, 24, .inr (.inr (.inr (.inr g)))))]) [0, 1] rfl (by decide) (by decide) (Nat.le_refl _) (Nat.le_refl _) (fun h2 hh2 => ?_)
  refine j_aload_n C rfl 0 rfl dX9_keep_53 ?_
  refine j_dup C rfl dX9_keep_54 ?_
  refine j_getf C (Cn := RX9) (T := TX9) (N := 18) fin_X9_keep_RX9 0 rfl rfl 3 (by decide) (by decide +kernel) rfl dX9_keep_55 ?_
  refine j_iconst C (v := (nI 1)) (by decide +kernel) dX9_keep_58 ?_
  refine j_iadd C (v := (nI (wn + 1))) (fx_add wn 1) dX9_keep_59 ?_
  refine j_putf C (Cn := RX9) (T := TX9) (ty := tyX9) (N := 18) (ws1 := [(h, .inr (11, [.ref ty, .int tn, .ref aw, .int (nI (wn + 1)), .ref (ad 4), .ref (ad 5), .ref (ad 6), .int (nI 0), .ref (ad 8), .int (nI 0), .ref dr, .ref se, .ref (ad 12), .ref (ad 13), .ref (ad 14), .ref (ad 15), .ref (ad 16), .ref (ad 17)])), (aw, .inl (cy 4, 24, .inr (.inr (.inr (.inr g))))), (d, .inr (9, [.ref db, .int (nI xs.length)])), (db, .inl (cy 0, 60, .inl h2)), (r, .inr (9, [.ref rl, .int (nI xs.length)])), (rl, .inl (cy 0, R, .inl f))]) fin_X9_keep_RX9 tyX9_ok nmX9 0 rfl rfl 3 (by decide) (by decide +kernel) rfl rfl rfl (Nat.le_of_ble_eq_true rfl) rfl dX9_keep_60 ?_
  refine j_aload_n C rfl 0 rfl dX9_keep_63 ?_
  refine j_getf C (Cn := RX9) (T := TX9) (N := 18) fin_X9_keep_RX9 0 rfl rfl 3 (by decide) (by decide +kernel) rfl dX9_keep_64 ?_
  refine j_iconst C (v := (nI 1)) (by decide +kernel) dX9_keep_67 ?_
  refine j_isub C (v := (nI wn)) (fx_up wn) dX9_keep_68 ?_
  exact j_iret C rfl (rfl) (h2) (⟨rfl, hh2⟩) [0, 1, 4, 5, 2, 3] rfl (by decide) (Nat.le_of_ble_eq_true rfl) (Nat.le_of_ble_eq_true rfl) dX9_keep_69
set_option maxRecDepth 100000 in
theorem fin_X9_type_RX9 : ∀ w ∈ u_ws RX9 TX9 18, w ∈ wsX9_type := by decide +kernel
theorem hdV_X9_codeOf : yX9_codeOf.cls = RX9 ∧ yX9_codeOf.cls ≠ "java/lang/invoke/MethodHandle" ∧ yX9_codeOf.cls ≠ "java/lang/invoke/VarHandle" ∧ (parseMethodDescriptor yX9_codeOf.desc).map (fun d => d.parameters.length) = some 1 := by decide +kernel
set_option maxHeartbeats 4000000 in
set_option maxRecDepth 100000 in
/-- type -/
theorem c_X9_type {l : Launch} {G : va_G} {cy : Nat → ClassId} {h ty aw dr se : Nat} {ad : Nat → Nat} {wn c9 : Int32} {k : Nat} {ts : List Nat} {tf : Nat → Int32} (hk : k < 6) (hc9 : c9 = sg k) (ht : ts.length < 30) : Ki l yX9_type wsX9_type G cy [.ref h, .int c9] [(h, .inr (11, [.ref ty, .int (nI ts.length), .ref aw, .int wn, .ref (ad 4), .ref (ad 5), .ref (ad 6), .int (nI 0), .ref (ad 8), .int (nI 0), .ref dr, .ref se, .ref (ad 12), .ref (ad 13), .ref (ad 14), .ref (ad 15), .ref (ad 16), .ref (ad 17)])), (ty, .inl (cy 0, 30, .inl tf))] (fun (v : Int32) (_ : Unit) => v = nI (ts.length + 1)) (fun _ => [(h, .inr (11, [.ref ty, .int (nI (ts.length + 1)), .ref aw, .int wn, .ref (ad 4), .ref (ad 5), .ref (ad 6), .int (nI 0), .ref (ad 8), .int (nI 0), .ref dr, .ref se, .ref (ad 12), .ref (ad 13), .ref (ad 14), .ref (ad 15), .ref (ad 16), .ref (ad 17)])), (ty, .inl (cy 0, 30, .inl (upd tf ts.length (nI k))))]) 1 0 0 22 := by
  refine Ki_of (cc := cX9_type) (nL := 3) (by decide) rfl (Nat.le_of_ble_eq_true rfl) ?_
  intro p e s m args below meth c A C hnm
  refine j_lo (lo1 := [(0, .ref h), (1, .int c9)]) [0, 1] rfl ?_
  refine j_aload_n C rfl 0 rfl dX9_type_0 ?_
  refine j_iload_n C rfl 1 rfl dX9_type_1 ?_
  refine j_resi (k1 := 0) (n1 := 0) C (j_runV C (c_X9_codeOf hk hc9) gX9_type_X9_codeOf rfl hdV_X9_codeOf ⟨Nat.le_of_ble_eq_true rfl, Nat.le_of_ble_eq_true rfl⟩ ⟨Nat.le_of_ble_eq_true rfl, Nat.le_of_ble_eq_true rfl⟩ 0 rfl rfl rfl [] rfl (by decide) rfl (Nat.le_of_ble_eq_true rfl) dX9_type_2) (wr := [(h, .inr (11, [.ref ty, .int (nI ts.length), .ref aw, .int wn, .ref (ad 4), .ref (ad 5), .ref (ad 6), .int (nI 0), .ref (ad 8), .int (nI 0), .ref dr, .ref se, .ref (ad 12), .ref (ad 13), .ref (ad 14), .ref (ad 15), .ref (ad 16), .ref (ad 17)])), (ty, .inl (cy 0, 30, .inl tf))]) [0, 1] rfl (by decide) (by decide) (Nat.le_refl _) (Nat.le_refl _) (fun v u hv => ?_)
  subst hv
  refine j_istore_n C (lo1 := [(2, .int (nI k)), (0, .ref h), (1, .int c9)]) rfl (by decide) rfl dX9_type_5 ?_
  refine j_aload_n C rfl 1 rfl dX9_type_6 ?_
  refine j_getf C (Cn := RX9) (T := TX9) (N := 18) fin_X9_type_RX9 0 rfl rfl 1 (by decide) (by decide +kernel) rfl dX9_type_7 ?_
  refine j_bipush C (v := (nI 30)) (by decide +kernel) dX9_type_10 ?_
  refine j_icmp_lt C (P := ts.length < 30) (nI_ltI (by omega) (by omega)) (tgt := 25) (by decide) dX9_type_12 (fun ht => ?_) (fun hq => absurd hq (by omega))
  refine j_aload_n C rfl 1 rfl dX9_type_25 ?_
  refine j_getf C (Cn := RX9) (T := TX9) (N := 18) fin_X9_type_RX9 0 rfl rfl 0 (by decide) (by decide +kernel) rfl dX9_type_26 ?_
  refine j_aload_n C rfl 1 rfl dX9_type_29 ?_
  refine j_getf C (Cn := RX9) (T := TX9) (N := 18) fin_X9_type_RX9 0 rfl rfl 1 (by decide) (by decide +kernel) rfl dX9_type_30 ?_
  refine j_iload_n C rfl 0 rfl dX9_type_33 ?_
  refine j_i2b C (v := (nI k)) (fx_byte (by omega)) dX9_type_34 ?_
  refine j_bast C 1 rfl (j := ts.length) (by omega) (by omega) (fx_nar (by omega)) (ws1 := [(h, .inr (11, [.ref ty, .int (nI ts.length), .ref aw, .int wn, .ref (ad 4), .ref (ad 5), .ref (ad 6), .int (nI 0), .ref (ad 8), .int (nI 0), .ref dr, .ref se, .ref (ad 12), .ref (ad 13), .ref (ad 14), .ref (ad 15), .ref (ad 16), .ref (ad 17)])), (ty, .inl (cy 0, 30, .inl (upd tf ts.length (nI k))))]) rfl dX9_type_35 ?_
  refine j_aload_n C rfl 1 rfl dX9_type_36 ?_
  refine j_dup C rfl dX9_type_37 ?_
  refine j_getf C (Cn := RX9) (T := TX9) (N := 18) fin_X9_type_RX9 0 rfl rfl 1 (by decide) (by decide +kernel) rfl dX9_type_38 ?_
  refine j_iconst C (v := (nI 1)) (by decide +kernel) dX9_type_41 ?_
  refine j_iadd C (v := (nI (ts.length + 1))) (fx_add ts.length 1) dX9_type_42 ?_
  refine j_putf C (Cn := RX9) (T := TX9) (ty := tyX9) (N := 18) (ws1 := [(h, .inr (11, [.ref ty, .int (nI (ts.length + 1)), .ref aw, .int wn, .ref (ad 4), .ref (ad 5), .ref (ad 6), .int (nI 0), .ref (ad 8), .int (nI 0), .ref dr, .ref se, .ref (ad 12), .ref (ad 13), .ref (ad 14), .ref (ad 15), .ref (ad 16), .ref (ad 17)])), (ty, .inl (cy 0, 30, .inl (upd tf ts.length (nI k))))]) fin_X9_type_RX9 tyX9_ok nmX9 0 rfl rfl 1 (by decide) (by decide +kernel) rfl rfl rfl (Nat.le_of_ble_eq_true rfl) rfl dX9_type_43 ?_
  refine j_aload_n C rfl 1 rfl dX9_type_46 ?_
  refine j_getf C (Cn := RX9) (T := TX9) (N := 18) fin_X9_type_RX9 0 rfl rfl 1 (by decide) (by decide +kernel) rfl dX9_type_47 ?_
  exact j_iret C rfl (rfl) (()) (rfl) [0, 1] rfl (by decide) (Nat.le_of_ble_eq_true rfl) (Nat.le_of_ble_eq_true rfl) dX9_type_50
set_option maxHeartbeats 4000000 in
set_option maxRecDepth 100000 in
/-- type: no such letter -/
theorem x_X9_type {l : Launch} {G : va_G} {cy : Nat → ClassId} (hl9 : l.stackTraces = false) {h ty aw dr se : Nat} {ad : Nat → Nat} {tn wn c9 : Int32} (hne : ∀ i, i < 6 → ¬ sg i = c9) : Kx l yX9_type wsX9_type G cy [.ref h, .int c9] [(h, .inr (11, [.ref ty, .int tn, .ref aw, .int wn, .ref (ad 4), .ref (ad 5), .ref (ad 6), .int (nI 0), .ref (ad 8), .int (nI 0), .ref dr, .ref se, .ref (ad 12), .ref (ad 13), .ref (ad 14), .ref (ad 15), .ref (ad 16), .ref (ad 17)]))] "java/lang/IllegalArgumentException" 7 1 6 122 := by
  refine Kx_of (cc := cX9_type) (nL := 3) (by decide) rfl (Nat.le_of_ble_eq_true rfl) ?_
  intro p e s m args below meth c A C hnm htb
  refine j_lo (lo1 := [(0, .ref h), (1, .int c9)]) [0, 1] rfl ?_
  refine j_aload_n C rfl 0 rfl dX9_type_0 ?_
  refine j_iload_n C rfl 1 rfl dX9_type_1 ?_
  refine j_resx (k1 := 1) (n1 := 6) C (j_runX C (x_X9_codeOf hl9 hne) gX9_type_X9_codeOf rfl hdV_X9_codeOf ⟨Nat.le_of_ble_eq_true rfl, Nat.le_of_ble_eq_true rfl⟩ ⟨Nat.le_of_ble_eq_true rfl, Nat.le_of_ble_eq_true rfl⟩ 0 rfl rfl rfl [] rfl (by decide) rfl (Nat.le_of_ble_eq_true rfl) dX9_type_2) (wr := [(h, .inr (11, [.ref ty, .int tn, .ref aw, .int wn, .ref (ad 4), .ref (ad 5), .ref (ad 6), .int (nI 0), .ref (ad 8), .int (nI 0), .ref dr, .ref se, .ref (ad 12), .ref (ad 13), .ref (ad 14), .ref (ad 15), .ref (ad 16), .ref (ad 17)]))]) [0] rfl (by decide) (by decide) (Nat.le_refl _) (Nat.le_refl _) ?_
  exact j_out C htb [0] rfl (by decide) (Nat.le_of_ble_eq_true rfl) (Nat.le_of_ble_eq_true rfl)
set_option maxRecDepth 100000 in
theorem fin_X9_wipe_RX9 : ∀ w ∈ u_ws RX9 TX9 18, w ∈ wsX9_wipe := by decide +kernel
set_option maxHeartbeats 4000000 in
set_option maxRecDepth 100000 in
/-- wipe -/
theorem c_X9_wipe {l : Launch} {G : va_G} {cy : Nat → ClassId} {h ty aw dr se : Nat} {ad : Nat → Nat} {tn wn : Int32} : Ki l yX9_wipe wsX9_wipe G cy [.ref h] [(h, .inr (11, [.ref ty, .int tn, .ref aw, .int wn, .ref (ad 4), .ref (ad 5), .ref (ad 6), .int (nI 0), .ref (ad 8), .int (nI 0), .ref dr, .ref se, .ref (ad 12), .ref (ad 13), .ref (ad 14), .ref (ad 15), .ref (ad 16), .ref (ad 17)]))] (fun (v : Int32) (_ : Unit) => v = tn) (fun _ => [(h, .inr (11, [.ref ty, .int (nI 0), .ref aw, .int wn, .ref (ad 4), .ref (ad 5), .ref (ad 6), .int (nI 0), .ref (ad 8), .int (nI 0), .ref dr, .ref se, .ref (ad 12), .ref (ad 13), .ref (ad 14), .ref (ad 15), .ref (ad 16), .ref (ad 17)]))]) 0 0 0 0 := by
  refine Ki_of (cc := cX9_wipe) (nL := 2) (by decide) rfl (Nat.le_of_ble_eq_true rfl) ?_
  intro p e s m args below meth c A C hnm
  refine j_lo (lo1 := [(0, .ref h)]) [0] rfl ?_
  refine j_aload_n C rfl 0 rfl dX9_wipe_0 ?_
  refine j_getf C (Cn := RX9) (T := TX9) (N := 18) fin_X9_wipe_RX9 0 rfl rfl 1 (by decide) (by decide +kernel) rfl dX9_wipe_1 ?_
  refine j_istore_n C (lo1 := [(1, .int tn), (0, .ref h)]) rfl (by decide) rfl dX9_wipe_4 ?_
  refine j_aload_n C rfl 1 rfl dX9_wipe_5 ?_
  refine j_iconst C (v := (nI 0)) (by decide +kernel) dX9_wipe_6 ?_
  refine j_putf C (Cn := RX9) (T := TX9) (ty := tyX9) (N := 18) (ws1 := [(h, .inr (11, [.ref ty, .int (nI 0), .ref aw, .int wn, .ref (ad 4), .ref (ad 5), .ref (ad 6), .int (nI 0), .ref (ad 8), .int (nI 0), .ref dr, .ref se, .ref (ad 12), .ref (ad 13), .ref (ad 14), .ref (ad 15), .ref (ad 16), .ref (ad 17)]))]) fin_X9_wipe_RX9 tyX9_ok nmX9 0 rfl rfl 1 (by decide) (by decide +kernel) rfl rfl rfl (Nat.le_of_ble_eq_true rfl) rfl dX9_wipe_7 ?_
  refine j_iload_n C rfl 0 rfl dX9_wipe_10 ?_
  exact j_iret C rfl (rfl) (()) (rfl) [0] rfl (by decide) (Nat.le_of_ble_eq_true rfl) (Nat.le_of_ble_eq_true rfl) dX9_wipe_11
set_option maxRecDepth 100000 in
theorem fin_X9_word_RX9 : ∀ w ∈ u_ws RX9 TX9 18, w ∈ wsX9_word := by decide +kernel
theorem hdV_X7_clear : yX7_clear.cls = RX7 ∧ yX7_clear.cls ≠ "java/lang/invoke/MethodHandle" ∧ yX7_clear.cls ≠ "java/lang/invoke/VarHandle" ∧ (parseMethodDescriptor yX7_clear.desc).map (fun d => d.parameters.length) = some 0 := by decide +kernel
theorem hdV_X9_keep : yX9_keep.cls = RX9 ∧ yX9_keep.cls ≠ "java/lang/invoke/MethodHandle" ∧ yX9_keep.cls ≠ "java/lang/invoke/VarHandle" ∧ (parseMethodDescriptor yX9_keep.desc).map (fun d => d.parameters.length) = some 1 := by decide +kernel
set_option maxHeartbeats 4000000 in
set_option maxRecDepth 100000 in
/-- word -/
theorem c_X9_word {l : Launch} {G : va_G} {cy : Nat → ClassId} {h ty aw dr se : Nat} {ad : Nat → Nat} {dl d db : Nat} {dz dn : Int32} {wn : Nat} {ts : List Nat} {tf df ef : Nat → Int32} {g : Nat → Option Nat} (hw : wn < 24) (hg : g wn = some d) (ht : ts.length ≤ 30) (ht6 : L6 ts) (htf : Hd tf ts) : Ki l yX9_word wsX9_word G cy [.ref h] [(h, .inr (11, [.ref ty, .int (nI ts.length), .ref aw, .int (nI wn), .ref (ad 4), .ref (ad 5), .ref (ad 6), .int (nI 0), .ref (ad 8), .int (nI 0), .ref dr, .ref se, .ref (ad 12), .ref (ad 13), .ref (ad 14), .ref (ad 15), .ref (ad 16), .ref (ad 17)])), (ty, .inl (cy 0, 30, .inl tf)), (aw, .inl (cy 4, 24, .inr (.inr (.inr (.inr g))))), (dr, .inr (9, [.ref dl, .int dz])), (dl, .inl (cy 0, 3600, .inl df)), (d, .inr (9, [.ref db, .int dn])), (db, .inl (cy 0, 60, .inl ef))] (fun (v : Int32) (u : (Nat → Int32) × (Nat → Int32)) => v = nI wn ∧ Hd u.1 (red ts) ∧ Hd u.2 (red ts)) (fun u => [(h, .inr (11, [.ref ty, .int (nI 0), .ref aw, .int (nI (wn + 1)), .ref (ad 4), .ref (ad 5), .ref (ad 6), .int (nI 0), .ref (ad 8), .int (nI 0), .ref dr, .ref se, .ref (ad 12), .ref (ad 13), .ref (ad 14), .ref (ad 15), .ref (ad 16), .ref (ad 17)])), (ty, .inl (cy 0, 30, .inl tf)), (aw, .inl (cy 4, 24, .inr (.inr (.inr (.inr g))))), (dr, .inr (9, [.ref dl, .int (nI ((red ts).length))])), (dl, .inl (cy 0, 3600, .inl u.1)), (d, .inr (9, [.ref db, .int (nI ((red ts).length))])), (db, .inl (cy 0, 60, .inl u.2))]) 2 0 0 43 := by
  refine Ki_of (cc := cX9_word) (nL := 2) (by decide) rfl (Nat.le_of_ble_eq_true rfl) ?_
  intro p e s m args below meth c A C hnm
  refine j_lo (lo1 := [(0, .ref h)]) [0] rfl ?_
  refine j_aload_n C rfl 0 rfl dX9_word_0 ?_
  refine j_getf C (Cn := RX9) (T := TX9) (N := 18) fin_X9_word_RX9 0 rfl rfl 10 (by decide) (by decide +kernel) rfl dX9_word_1 ?_
  refine j_resv (k1 := 0) (n1 := 0) C (j_runV C (c_X7_clear) gX9_word_X7_clear rfl hdV_X7_clear ⟨Nat.le_of_ble_eq_true rfl, Nat.le_of_ble_eq_true rfl⟩ ⟨Nat.le_of_ble_eq_true rfl, Nat.le_of_ble_eq_true rfl⟩ 3 rfl rfl rfl [3] rfl (by decide) rfl (Nat.le_of_ble_eq_true rfl) dX9_word_4) (wr := [(h, .inr (11, [.ref ty, .int (nI ts.length), .ref aw, .int (nI wn), .ref (ad 4), .ref (ad 5), .ref (ad 6), .int (nI 0), .ref (ad 8), .int (nI 0), .ref dr, .ref se, .ref (ad 12), .ref (ad 13), .ref (ad 14), .ref (ad 15), .ref (ad 16), .ref (ad 17)])), (ty, .inl (cy 0, 30, .inl tf)), (aw, .inl (cy 4, 24, .inr (.inr (.inr (.inr g))))), (dl, .inl (cy 0, 3600, .inl df)), (d, .inr (9, [.ref db, .int dn])), (db, .inl (cy 0, 60, .inl ef))]) [0, 1, 2, 4, 5, 6] rfl (by decide) (by decide) (Nat.le_refl _) (Nat.le_refl _) (fun u9 _ => ?_)
  refine j_iconst C (v := (nI 0)) (by decide +kernel) dX9_word_7 ?_
  refine j_istore_n C (lo1 := [(1, .int (nI 0)), (0, .ref h)]) rfl (by decide) rfl dX9_word_8 ?_
  refine j_lo (lo1 := [(1, .int (nI 0)), (0, .ref h)]) [0, 1] rfl ?_
  refine j_ws (ws1 := [(h, .inr (11, [.ref ty, .int (nI ts.length), .ref aw, .int (nI wn), .ref (ad 4), .ref (ad 5), .ref (ad 6), .int (nI 0), .ref (ad 8), .int (nI 0), .ref dr, .ref se, .ref (ad 12), .ref (ad 13), .ref (ad 14), .ref (ad 15), .ref (ad 16), .ref (ad 17)])), (ty, .inl (cy 0, 30, .inl tf)), (aw, .inl (cy 4, 24, .inr (.inr (.inr (.inr g))))), (dr, .inr (9, [.ref dl, .int (nI (([] : List Nat).length))])), (dl, .inl (cy 0, 3600, .inl df)), (d, .inr (9, [.ref db, .int dn])), (db, .inl (cy 0, 60, .inl ef))]) [0, 1, 2, 6, 3, 4, 5] rfl (by decide) ?_
  have lp : ∀ (d9 : Nat) (i : Nat) (q : Nat → Int32), ts.length - i < d9 → (i ≤ ts.length) → (Hd q (red (seg (gd ts) 0 i))) → J p l e (fz_rm 2 0 0 43) s m args below meth c (MQ below (va_Qi (fun (v : Int32) (u : (Nat → Int32) × (Nat → Int32)) => v = nI wn ∧ Hd u.1 (red ts) ∧ Hd u.2 (red ts)) (fz_B G (fun u => [(h, .inr (11, [.ref ty, .int (nI 0), .ref aw, .int (nI (wn + 1)), .ref (ad 4), .ref (ad 5), .ref (ad 6), .int (nI 0), .ref (ad 8), .int (nI 0), .ref dr, .ref se, .ref (ad 12), .ref (ad 13), .ref (ad 14), .ref (ad 15), .ref (ad 16), .ref (ad 17)])), (ty, .inl (cy 0, 30, .inl tf)), (aw, .inl (cy 4, 24, .inr (.inr (.inr (.inr g))))), (dr, .inr (9, [.ref dl, .int (nI ((red ts).length))])), (dl, .inl (cy 0, 3600, .inl u.1)), (d, .inr (9, [.ref db, .int (nI ((red ts).length))])), (db, .inl (cy 0, 60, .inl u.2))]) A) A) args s 0 0 A) G A 2 [(h, .inr (11, [.ref ty, .int (nI ts.length), .ref aw, .int (nI wn), .ref (ad 4), .ref (ad 5), .ref (ad 6), .int (nI 0), .ref (ad 8), .int (nI 0), .ref dr, .ref se, .ref (ad 12), .ref (ad 13), .ref (ad 14), .ref (ad 15), .ref (ad 16), .ref (ad 17)])), (ty, .inl (cy 0, 30, .inl tf)), (aw, .inl (cy 4, 24, .inr (.inr (.inr (.inr g))))), (dr, .inr (9, [.ref dl, .int (nI ((red (seg (gd ts) 0 i)).length))])), (dl, .inl (cy 0, 3600, .inl q)), (d, .inr (9, [.ref db, .int dn])), (db, .inl (cy 0, 60, .inl ef))] 0 0 9 [(1, .int (nI i)), (0, .ref h)] [] := by
    intro d9
    induction d9 with
    | zero => intro i q hd9; exact absurd hd9 (Nat.not_lt_zero _)
    | succ d9 ih =>
      intro i q hd9 hi hq
      refine j_iload_n C rfl 0 rfl dX9_word_9 ?_
      refine j_aload_n C rfl 1 rfl dX9_word_10 ?_
      refine j_getf C (Cn := RX9) (T := TX9) (N := 18) fin_X9_word_RX9 0 rfl rfl 1 (by decide) (by decide +kernel) rfl dX9_word_11 ?_
      refine j_icmp_ge C (P := ts.length ≤ i) (nI_leI (by omega) (by omega)) (tgt := 36) (by decide) dX9_word_14 (fun ha => ?_) (fun hb => ?_)
      · have hi9 : i = ts.length := by omega
        subst hi9
        rw [gd_all] at hq ⊢
        have hrl := red_len ts
        refine j_aload_n C rfl 1 rfl dX9_word_36 ?_
        refine j_aload_n C rfl 1 rfl dX9_word_37 ?_
        refine j_getf C (Cn := RX9) (T := TX9) (N := 18) fin_X9_word_RX9 0 rfl rfl 10 (by decide) (by decide +kernel) rfl dX9_word_38 ?_
        refine j_resi (k1 := 0) (n1 := 0) C (j_runV C (c_X9_keep (xs := red ts) hw hg (by decide) (by omega) (L6_red ht6) hq (by omega)) gX9_word_X9_keep rfl hdV_X9_keep ⟨Nat.le_of_ble_eq_true rfl, Nat.le_of_ble_eq_true rfl⟩ ⟨Nat.le_of_ble_eq_true rfl, Nat.le_of_ble_eq_true rfl⟩ 0 rfl rfl rfl [0, 2, 3, 4, 5, 6] rfl (by decide) rfl (Nat.le_of_ble_eq_true rfl) dX9_word_41) (wr := [(ty, .inl (cy 0, 30, .inl tf))]) [1] rfl (by decide) (by decide) (Nat.le_refl _) (Nat.le_refl _) (fun v e2 hv => ?_)
        obtain ⟨hv, he2⟩ := hv
        subst hv
        refine j_istore_n C (lo1 := [(1, .int (nI wn)), (0, .ref h)]) rfl (by decide) rfl dX9_word_44 ?_
        refine j_aload_n C rfl 1 rfl dX9_word_45 ?_
        refine j_iconst C (v := (nI 0)) (by decide +kernel) dX9_word_46 ?_
        refine j_putf C (Cn := RX9) (T := TX9) (ty := tyX9) (N := 18) (ws1 := [(ty, .inl (cy 0, 30, .inl tf)), (h, .inr (11, [.ref ty, .int (nI 0), .ref aw, .int (nI (wn + 1)), .ref (ad 4), .ref (ad 5), .ref (ad 6), .int (nI 0), .ref (ad 8), .int (nI 0), .ref dr, .ref se, .ref (ad 12), .ref (ad 13), .ref (ad 14), .ref (ad 15), .ref (ad 16), .ref (ad 17)])), (aw, .inl (cy 4, 24, .inr (.inr (.inr (.inr g))))), (dr, .inr (9, [.ref dl, .int (nI ((red ts).length))])), (dl, .inl (cy 0, 3600, .inl q)), (d, .inr (9, [.ref db, .int (nI ((red ts).length))])), (db, .inl (cy 0, 60, .inl e2))]) fin_X9_word_RX9 tyX9_ok nmX9 1 rfl rfl 1 (by decide) (by decide +kernel) rfl rfl rfl (Nat.le_of_ble_eq_true rfl) rfl dX9_word_47 ?_
        refine j_iload_n C rfl 0 rfl dX9_word_50 ?_
        exact j_iret C rfl (rfl) ((q, e2)) (⟨rfl, hq, he2⟩) [1, 0, 2, 3, 4, 5, 6] rfl (by decide) (Nat.le_of_ble_eq_true rfl) (Nat.le_of_ble_eq_true rfl) dX9_word_51
      · have hrl := red_len (seg (gd ts) 0 i)
        rw [seg_len] at hrl
        refine j_aload_n C rfl 1 rfl dX9_word_17 ?_
        refine j_getf C (Cn := RX9) (T := TX9) (N := 18) fin_X9_word_RX9 0 rfl rfl 10 (by decide) (by decide +kernel) rfl dX9_word_18 ?_
        refine j_aload_n C rfl 1 rfl dX9_word_21 ?_
        refine j_getf C (Cn := RX9) (T := TX9) (N := 18) fin_X9_word_RX9 0 rfl rfl 0 (by decide) (by decide +kernel) rfl dX9_word_22 ?_
        refine j_iload_n C rfl 0 rfl dX9_word_25 ?_
        refine j_bald C 1 rfl (j := i) (by omega) (by omega) (v := (nI (gd ts i))) (htf i (by omega)) dX9_word_26 ?_
        refine j_resv (k1 := 0) (n1 := 0) C (j_runV C (c_X7_add (xs := red (seg (gd ts) 0 i)) (a := gd ts i) (by decide) (by omega) (L6_red (L6_seg ht6 (by omega))) (ht6 i (by omega)) hq) gX9_word_X7_add rfl hdV_X7_add ⟨Nat.le_of_ble_eq_true rfl, Nat.le_of_ble_eq_true rfl⟩ ⟨Nat.le_of_ble_eq_true rfl, Nat.le_of_ble_eq_true rfl⟩ 3 rfl rfl rfl [3, 4] rfl (by decide) rfl (Nat.le_of_ble_eq_true rfl) dX9_word_27) (wr := [(h, .inr (11, [.ref ty, .int (nI ts.length), .ref aw, .int (nI wn), .ref (ad 4), .ref (ad 5), .ref (ad 6), .int (nI 0), .ref (ad 8), .int (nI 0), .ref dr, .ref se, .ref (ad 12), .ref (ad 13), .ref (ad 14), .ref (ad 15), .ref (ad 16), .ref (ad 17)])), (ty, .inl (cy 0, 30, .inl tf)), (aw, .inl (cy 4, 24, .inr (.inr (.inr (.inr g))))), (d, .inr (9, [.ref db, .int dn])), (db, .inl (cy 0, 60, .inl ef))]) [0, 1, 2, 5, 6] rfl (by decide) (by decide) (Nat.le_refl _) (Nat.le_refl _) (fun q2 hq2 => ?_)
        refine j_ws (ws1 := [(h, .inr (11, [.ref ty, .int (nI ts.length), .ref aw, .int (nI wn), .ref (ad 4), .ref (ad 5), .ref (ad 6), .int (nI 0), .ref (ad 8), .int (nI 0), .ref dr, .ref se, .ref (ad 12), .ref (ad 13), .ref (ad 14), .ref (ad 15), .ref (ad 16), .ref (ad 17)])), (ty, .inl (cy 0, 30, .inl tf)), (aw, .inl (cy 4, 24, .inr (.inr (.inr (.inr g))))), (dr, .inr (9, [.ref dl, .int (nI ((psh (red (seg (gd ts) 0 i)) (gd ts i)).length))])), (dl, .inl (cy 0, 3600, .inl q2)), (d, .inr (9, [.ref db, .int dn])), (db, .inl (cy 0, 60, .inl ef))]) [0, 1, 2, 5, 6, 3, 4] rfl (by decide) ?_
        rw [show psh (red (seg (gd ts) 0 i)) (gd ts i) = red (seg (gd ts) 0 (i + 1)) by rw [seg_snoc, Nat.zero_add, red, red, act_app]; rfl] at hq2 ⊢
        refine j_iinc C (v := (nI (i + 1))) (lo1 := [(1, .int (nI (i + 1))), (0, .ref h)]) 0 rfl (fx_inc i 1) (by decide) rfl dX9_word_30 ?_
        refine j_goto C (tgt := 9) (by decide) dX9_word_33 ?_
        refine j_lo (lo1 := [(1, .int (nI (i + 1))), (0, .ref h)]) [0, 1] rfl ?_
        exact ih (i + 1) q2 (by omega) (by omega) hq2
  exact lp (ts.length + 1) 0 df (by omega) (by omega) (Hd_nil df)
