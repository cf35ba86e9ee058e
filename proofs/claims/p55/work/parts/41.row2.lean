/-- going down to a place -/
theorem fx_dnlt {d a : Nat} (hd : d < 2 ^ 31) (ha : a < 2 ^ 31) (h : a ≤ d) : nI d - 1 < nI a ↔ d = a := by
  cases d with
  | zero =>
    have : a = 0 := by omega
    subst this
    exact ⟨fun _ => rfl, fun _ => by decide⟩
  | succ d =>
    rw [nI_pred, nI_ltI (by omega) ha]
    omega
set_option maxRecDepth 100000 in
theorem fin_X7_addRow_RX7 : ∀ w ∈ u_ws RX7 TX7 2, w ∈ wsX7_addRow := by decide +kernel
theorem hdV_X7_add : yX7_add.cls = RX7 ∧ yX7_add.cls ≠ "java/lang/invoke/MethodHandle" ∧ yX7_add.cls ≠ "java/lang/invoke/VarHandle" ∧ (parseMethodDescriptor yX7_add.desc).map (fun d => d.parameters.length) = some 1 := by decide +kernel
set_option maxHeartbeats 4000000 in
set_option maxRecDepth 100000 in
/-- addRow: letter after letter -/
theorem c_X7_addRow {l : Launch} {G : va_G} {cy : Nat → ClassId} {r lt R r2 lt2 R2 : Nat} {xs ys : List Nat} {f g : Nat → Int32} (hR : R < 2 ^ 20) (hR2 : R2 < 2 ^ 20) (hx : xs.length + ys.length ≤ R) (h6 : L6 xs) (hy6 : L6 ys) (hf : Hd f xs) (hg : Hd g ys) (hyR : ys.length ≤ R2)  : Kv l yX7_addRow wsX7_addRow G cy [.ref r, .ref r2] [(r, .inr (9, [.ref lt, .int (nI xs.length)])), (lt, .inl (cy 0, R, .inl f)), (r2, .inr (9, [.ref lt2, .int (nI ys.length)])), (lt2, .inl (cy 0, R2, .inl g))] (fun h : Nat → Int32 => Hd h (act xs ys)) (fun h => [(r, .inr (9, [.ref lt, .int (nI ((act xs ys).length))])), (lt, .inl (cy 0, R, .inl h)), (r2, .inr (9, [.ref lt2, .int (nI ys.length)])), (lt2, .inl (cy 0, R2, .inl g))]) 1 0 0 21 := by
  refine Kv_of (cc := cX7_addRow) (nL := 4) (by decide) rfl (Nat.le_of_ble_eq_true rfl) ?_
  intro p e s m args below meth c A C hnm
  refine j_lo (lo1 := [(0, .ref r), (1, .ref r2)]) [0, 1] rfl ?_
  refine j_aload_n C rfl 1 rfl dX7_addRow_0 ?_
  refine j_getf C (Cn := RX7) (T := TX7) (N := 2) fin_X7_addRow_RX7 2 rfl rfl 1 (by decide) (by decide +kernel) rfl dX7_addRow_1 ?_
  refine j_istore_n C (lo1 := [(2, .int (nI ys.length)), (0, .ref r), (1, .ref r2)]) rfl (by decide) rfl dX7_addRow_4 ?_
  refine j_iconst C (v := (nI 0)) (by decide) dX7_addRow_5 ?_
  refine j_istore_n C (lo1 := [(3, .int (nI 0)), (2, .int (nI ys.length)), (0, .ref r), (1, .ref r2)]) rfl (by decide) rfl dX7_addRow_6 ?_
  refine j_lo (lo1 := [(3, .int (nI 0)), (2, .int (nI ys.length)), (0, .ref r), (1, .ref r2)]) [0, 1, 2, 3] rfl ?_
  have lp : ∀ (d9 : Nat) (i : Nat) (h : Nat → Int32), ys.length - i < d9 → (i ≤ ys.length) → (Hd h (act xs (seg (gd ys) 0 i))) → J p l e (fz_rm 1 0 0 21) s m args below meth c (MQ below (va_Qv (fun h : Nat → Int32 => Hd h (act xs ys)) (fz_B G (fun h => [(r, .inr (9, [.ref lt, .int (nI ((act xs ys).length))])), (lt, .inl (cy 0, R, .inl h)), (r2, .inr (9, [.ref lt2, .int (nI ys.length)])), (lt2, .inl (cy 0, R2, .inl g))]) A) A) args s 0 0 A) G A 4 [(r, .inr (9, [.ref lt, .int (nI ((act xs (seg (gd ys) 0 i)).length))])), (lt, .inl (cy 0, R, .inl h)), (r2, .inr (9, [.ref lt2, .int (nI ys.length)])), (lt2, .inl (cy 0, R2, .inl g))] 0 0 7 [(3, .int (nI i)), (2, .int (nI ys.length)), (0, .ref r), (1, .ref r2)] [] := by
    intro d9
    induction d9 with
    | zero => intro i h hd9; exact absurd hd9 (Nat.not_lt_zero _)
    | succ d9 ih =>
      intro i h hd9 hi hh
      refine j_iload_n C rfl 0 rfl dX7_addRow_7 ?_
      refine j_iload_n C rfl 1 rfl dX7_addRow_8 ?_
      refine j_icmp_ge C (P := ys.length ≤ i) (nI_leI (by omega) (by omega)) (tgt := 28) (by decide) dX7_addRow_9 (fun ht => ?_) (fun hq => ?_)
      · have hi9 : i = ys.length := by omega
        subst hi9
        rw [gd_all] at hh ⊢
        exact j_vret C (h) (hh) [0, 1, 2, 3] rfl (by decide) (Nat.le_of_ble_eq_true rfl) (Nat.le_of_ble_eq_true rfl) dX7_addRow_28
      · have hlen := act_len (seg (gd ys) 0 i) xs
        rw [seg_len] at hlen
        refine j_aload_n C rfl 2 rfl dX7_addRow_12 ?_
        refine j_aload_n C rfl 3 rfl dX7_addRow_13 ?_
        refine j_getf C (Cn := RX7) (T := TX7) (N := 2) fin_X7_addRow_RX7 2 rfl rfl 0 (by decide) (by decide +kernel) rfl dX7_addRow_14 ?_
        refine j_iload_n C rfl 0 rfl dX7_addRow_17 ?_
        refine j_bald C 3 rfl (j := i) (by omega) (by omega) (v := (nI (gd ys i))) (hg i (by omega)) dX7_addRow_18 ?_
        refine j_resv (k1 := 0) (n1 := 0) C (j_runV C (c_X7_add (xs := act xs (seg (gd ys) 0 i)) (a := gd ys i) hR (by omega) (L6_act _ h6 (L6_seg hy6 (by omega))) (hy6 i (by omega)) hh) gX7_addRow_X7_add rfl hdV_X7_add ⟨Nat.le_of_ble_eq_true rfl, Nat.le_of_ble_eq_true rfl⟩ ⟨Nat.le_of_ble_eq_true rfl, Nat.le_of_ble_eq_true rfl⟩ 0 rfl rfl rfl [0, 1] rfl (by decide) rfl (Nat.le_of_ble_eq_true rfl) dX7_addRow_19) (wr := [(r2, .inr (9, [.ref lt2, .int (nI ys.length)])), (lt2, .inl (cy 0, R2, .inl g))]) [2, 3] rfl (by decide) (by decide) (Nat.le_refl _) (Nat.le_refl _) (fun h2 hh2 => ?_)
        refine j_ws (ws1 := [(r, .inr (9, [.ref lt, .int (nI ((psh (act xs (seg (gd ys) 0 i)) (gd ys i)).length))])), (lt, .inl (cy 0, R, .inl h2)), (r2, .inr (9, [.ref lt2, .int (nI ys.length)])), (lt2, .inl (cy 0, R2, .inl g))]) [2, 3, 0, 1] rfl (by decide) ?_
        rw [show psh (act xs (seg (gd ys) 0 i)) (gd ys i) = act xs (seg (gd ys) 0 (i + 1)) by rw [seg_snoc, act_app, Nat.zero_add]; rfl] at hh2 ⊢
        refine j_iinc C (v := (nI (i + 1))) (lo1 := [(3, .int (nI (i + 1))), (2, .int (nI ys.length)), (0, .ref r), (1, .ref r2)]) 0 rfl (fx_inc i 1) (by decide) rfl dX7_addRow_22 ?_
        refine j_goto C (tgt := 7) (by decide) dX7_addRow_25 ?_
        refine j_lo (lo1 := [(3, .int (nI (i + 1))), (2, .int (nI ys.length)), (0, .ref r), (1, .ref r2)]) [0, 1, 2, 3] rfl ?_
        exact ih (i + 1) h2 (by omega) (by omega) hh2
  exact lp (ys.length + 1) 0 f (by omega) (by omega) hf
set_option maxRecDepth 100000 in
theorem fin_X7_addInverse_RX7 : ∀ w ∈ u_ws RX7 TX7 2, w ∈ wsX7_addInverse := by decide +kernel
set_option maxHeartbeats 4000000 in
set_option maxRecDepth 100000 in
/-- addInverse: the inverse, letter after letter -/
theorem c_X7_addInverse {l : Launch} {G : va_G} {cy : Nat → ClassId} {r lt R r2 lt2 R2 : Nat} {xs ys : List Nat} {f g : Nat → Int32} (hR : R < 2 ^ 20) (hR2 : R2 < 2 ^ 20) (hx : xs.length + ys.length ≤ R) (h6 : L6 xs) (hy6 : L6 ys) (hf : Hd f xs) (hg : Hd g ys) (hyR : ys.length ≤ R2)  : Kv l yX7_addInverse wsX7_addInverse G cy [.ref r, .ref r2] [(r, .inr (9, [.ref lt, .int (nI xs.length)])), (lt, .inl (cy 0, R, .inl f)), (r2, .inr (9, [.ref lt2, .int (nI ys.length)])), (lt2, .inl (cy 0, R2, .inl g))] (fun h : Nat → Int32 => Hd h (act xs (iv ys))) (fun h => [(r, .inr (9, [.ref lt, .int (nI ((act xs (iv ys)).length))])), (lt, .inl (cy 0, R, .inl h)), (r2, .inr (9, [.ref lt2, .int (nI ys.length)])), (lt2, .inl (cy 0, R2, .inl g))]) 1 0 0 21 := by
  refine Kv_of (cc := cX7_addInverse) (nL := 3) (by decide) rfl (Nat.le_of_ble_eq_true rfl) ?_
  intro p e s m args below meth c A C hnm
  refine j_lo (lo1 := [(0, .ref r), (1, .ref r2)]) [0, 1] rfl ?_
  refine j_aload_n C rfl 1 rfl dX7_addInverse_0 ?_
  refine j_getf C (Cn := RX7) (T := TX7) (N := 2) fin_X7_addInverse_RX7 2 rfl rfl 1 (by decide) (by decide +kernel) rfl dX7_addInverse_1 ?_
  refine j_iconst C (v := (nI 1)) (by decide) dX7_addInverse_4 ?_
  refine j_isub C (v := (nI ys.length - 1)) (fx_m1 _) dX7_addInverse_5 ?_
  refine j_istore_n C (lo1 := [(2, .int (nI ys.length - 1)), (0, .ref r), (1, .ref r2)]) rfl (by decide) rfl dX7_addInverse_6 ?_
  refine j_lo (lo1 := [(2, .int (nI ys.length - 1)), (0, .ref r), (1, .ref r2)]) [0, 1, 2] rfl ?_
  have lp : ∀ (d9 : Nat) (j : Nat) (h : Nat → Int32), j < d9 → (j ≤ ys.length) → (Hd h (act xs (iv (seg (gd ys) j (ys.length - j))))) → J p l e (fz_rm 1 0 0 21) s m args below meth c (MQ below (va_Qv (fun h : Nat → Int32 => Hd h (act xs (iv ys))) (fz_B G (fun h => [(r, .inr (9, [.ref lt, .int (nI ((act xs (iv ys)).length))])), (lt, .inl (cy 0, R, .inl h)), (r2, .inr (9, [.ref lt2, .int (nI ys.length)])), (lt2, .inl (cy 0, R2, .inl g))]) A) A) args s 0 0 A) G A 3 [(r, .inr (9, [.ref lt, .int (nI ((act xs (iv (seg (gd ys) j (ys.length - j)))).length))])), (lt, .inl (cy 0, R, .inl h)), (r2, .inr (9, [.ref lt2, .int (nI ys.length)])), (lt2, .inl (cy 0, R2, .inl g))] 0 0 7 [(2, .int (nI j - 1)), (0, .ref r), (1, .ref r2)] [] := by
    intro d9
    induction d9 with
    | zero => intro j h hd9; exact absurd hd9 (Nat.not_lt_zero _)
    | succ d9 ih =>
      intro j h hd9 hj hh
      refine j_iload_n C rfl 0 rfl dX7_addInverse_7 ?_
      refine j_if_lt C (P := j = 0) (fx_dn (by omega)) (tgt := 29) (by decide) dX7_addInverse_8 (fun ht => ?_) (fun hq => ?_)
      · subst ht
        rw [Nat.sub_zero, gd_all] at hh ⊢
        exact j_vret C (h) (hh) [0, 1, 2, 3] rfl (by decide) (Nat.le_of_ble_eq_true rfl) (Nat.le_of_ble_eq_true rfl) dX7_addInverse_29
      · obtain ⟨j, rfl⟩ : ∃ z, j = z + 1 := ⟨j - 1, by omega⟩
        have hlen := act_len (iv (seg (gd ys) (j + 1) (ys.length - (j + 1)))) xs
        rw [iv_len, seg_len] at hlen
        refine j_leq (lo1 := [(2, .int (nI j)), (0, .ref r), (1, .ref r2)]) (by rw [nI_pred]) ?_
        refine j_aload_n C rfl 1 rfl dX7_addInverse_11 ?_
        refine j_aload_n C rfl 2 rfl dX7_addInverse_12 ?_
        refine j_getf C (Cn := RX7) (T := TX7) (N := 2) fin_X7_addInverse_RX7 2 rfl rfl 0 (by decide) (by decide +kernel) rfl dX7_addInverse_13 ?_
        refine j_iload_n C rfl 0 rfl dX7_addInverse_16 ?_
        refine j_bald C 3 rfl (j := j) (by omega) (by omega) (v := (nI (gd ys j))) (hg j (by omega)) dX7_addInverse_17 ?_
        refine j_iconst C (v := (nI 1)) (by decide) dX7_addInverse_18 ?_
        refine j_ixor C (v := (nI (fv (gd ys j)))) (fx_fv (gd ys j)) dX7_addInverse_19 ?_
        refine j_resv (k1 := 0) (n1 := 0) C (j_runV C (c_X7_add (xs := act xs (iv (seg (gd ys) (j + 1) (ys.length - (j + 1))))) (a := fv (gd ys j)) hR (by omega) (L6_act _ h6 (L6_iv (L6_seg hy6 (by omega)))) (fv_lt _ (hy6 j (by omega))) hh) gX7_addInverse_X7_add rfl hdV_X7_add ⟨Nat.le_of_ble_eq_true rfl, Nat.le_of_ble_eq_true rfl⟩ ⟨Nat.le_of_ble_eq_true rfl, Nat.le_of_ble_eq_true rfl⟩ 0 rfl rfl rfl [0, 1] rfl (by decide) rfl (Nat.le_of_ble_eq_true rfl) dX7_addInverse_20) (wr := [(r2, .inr (9, [.ref lt2, .int (nI ys.length)])), (lt2, .inl (cy 0, R2, .inl g))]) [2, 3] rfl (by decide) (by decide) (Nat.le_refl _) (Nat.le_refl _) (fun h2 hh2 => ?_)
        refine j_ws (ws1 := [(r, .inr (9, [.ref lt, .int (nI ((psh (act xs (iv (seg (gd ys) (j + 1) (ys.length - (j + 1))))) (fv (gd ys j))).length))])), (lt, .inl (cy 0, R, .inl h2)), (r2, .inr (9, [.ref lt2, .int (nI ys.length)])), (lt2, .inl (cy 0, R2, .inl g))]) [2, 3, 0, 1] rfl (by decide) ?_
        have hst : psh (act xs (iv (seg (gd ys) (j + 1) (ys.length - (j + 1))))) (fv (gd ys j)) = act xs (iv (seg (gd ys) j (ys.length - j))) := by
          rw [show ys.length - j = ys.length - (j + 1) + 1 by omega, seg_cons, iv_cons, act_app]; rfl
        rw [hst] at hh2 ⊢
        refine j_iinc C (v := (nI j - 1)) (lo1 := [(2, .int (nI j - 1)), (0, .ref r), (1, .ref r2)]) 0 rfl (fx_dec j) (by decide) rfl dX7_addInverse_23 ?_
        refine j_goto C (tgt := 7) (by decide) dX7_addInverse_26 ?_
        refine j_lo (lo1 := [(2, .int (nI j - 1)), (0, .ref r), (1, .ref r2)]) [0, 1, 2] rfl ?_
        exact ih j h2 (by omega) (by omega) hh2
  have h0 := lp (ys.length + 1) ys.length f (by omega) (by omega)
  rw [Nat.sub_self, seg_0] at h0
  exact h0 hf
set_option maxRecDepth 100000 in
theorem fin_X7_addPart_RX7 : ∀ w ∈ u_ws RX7 TX7 2, w ∈ wsX7_addPart := by decide +kernel
set_option maxHeartbeats 4000000 in
set_option maxRecDepth 100000 in
/-- addPart: the letters from a up to b -/
theorem c_X7_addPart {l : Launch} {G : va_G} {cy : Nat → ClassId} {r lt R r2 lt2 R2 : Nat} {xs ys : List Nat} {f g : Nat → Int32} (hR : R < 2 ^ 20) (hR2 : R2 < 2 ^ 20) {a b : Nat} (hx : xs.length + ys.length ≤ R) (hab : a ≤ b ∧ b ≤ ys.length) (h6 : L6 xs) (hy6 : L6 ys) (hf : Hd f xs) (hg : Hd g ys) (hyR : ys.length ≤ R2)  : Kv l yX7_addPart wsX7_addPart G cy [.ref r, .ref r2, .int (nI a), .int (nI b)] [(r, .inr (9, [.ref lt, .int (nI xs.length)])), (lt, .inl (cy 0, R, .inl f)), (r2, .inr (9, [.ref lt2, .int (nI ys.length)])), (lt2, .inl (cy 0, R2, .inl g))] (fun h : Nat → Int32 => Hd h (act xs (seg (gd ys) a (b - a)))) (fun h => [(r, .inr (9, [.ref lt, .int (nI ((act xs (seg (gd ys) a (b - a))).length))])), (lt, .inl (cy 0, R, .inl h)), (r2, .inr (9, [.ref lt2, .int (nI ys.length)])), (lt2, .inl (cy 0, R2, .inl g))]) 1 0 0 21 := by
  refine Kv_of (cc := cX7_addPart) (nL := 6) (by decide) rfl (Nat.le_of_ble_eq_true rfl) ?_
  intro p e s m args below meth c A C hnm
  refine j_lo (lo1 := [(0, .ref r), (1, .ref r2), (2, .int (nI a)), (3, .int (nI b))]) [0, 1, 2, 3] rfl ?_
  have lp : ∀ (d9 : Nat) (i : Nat) (h : Nat → Int32), b - i < d9 → (a ≤ i ∧ i ≤ b) → (Hd h (act xs (seg (gd ys) a (i - a)))) → J p l e (fz_rm 1 0 0 21) s m args below meth c (MQ below (va_Qv (fun h : Nat → Int32 => Hd h (act xs (seg (gd ys) a (b - a)))) (fz_B G (fun h => [(r, .inr (9, [.ref lt, .int (nI ((act xs (seg (gd ys) a (b - a))).length))])), (lt, .inl (cy 0, R, .inl h)), (r2, .inr (9, [.ref lt2, .int (nI ys.length)])), (lt2, .inl (cy 0, R2, .inl g))]) A) A) args s 0 0 A) G A 6 [(r, .inr (9, [.ref lt, .int (nI ((act xs (seg (gd ys) a (i - a))).length))])), (lt, .inl (cy 0, R, .inl h)), (r2, .inr (9, [.ref lt2, .int (nI ys.length)])), (lt2, .inl (cy 0, R2, .inl g))] 0 0 15 [(5, .int (nI i)), (3, .int (nI b)), (0, .ref r), (1, .ref r2)] [] := by
    intro d9
    induction d9 with
    | zero => intro i h hd9; exact absurd hd9 (Nat.not_lt_zero _)
    | succ d9 ih =>
      intro i h hd9 hi hh
      refine j_iload C 0 rfl dX7_addPart_15 ?_
      refine j_iload_n C rfl 1 rfl dX7_addPart_17 ?_
      refine j_icmp_ge C (P := b ≤ i) (nI_leI (by omega) (by omega)) (tgt := 47) (by decide) dX7_addPart_18 (fun ht => ?_) (fun hq => ?_)
      · have hi9 : i = b := by omega
        subst hi9
        exact j_vret C (h) (hh) [0, 1, 2, 3] rfl (by decide) (Nat.le_of_ble_eq_true rfl) (Nat.le_of_ble_eq_true rfl) dX7_addPart_47
      · refine j_iload C 0 rfl dX7_addPart_21 ?_
        refine j_aload_n C rfl 3 rfl dX7_addPart_23 ?_
        refine j_getf C (Cn := RX7) (T := TX7) (N := 2) fin_X7_addPart_RX7 2 rfl rfl 1 (by decide) (by decide +kernel) rfl dX7_addPart_24 ?_
        refine j_icmp_ge C (P := ys.length ≤ i) (nI_leI (by omega) (by omega)) (tgt := 47) (by decide) dX7_addPart_27 (fun ht => absurd ht (by omega)) (fun hq => ?_)
        have hlen := act_len (seg (gd ys) a (i - a)) xs
        rw [seg_len] at hlen
        refine j_aload_n C rfl 2 rfl dX7_addPart_30 ?_
        refine j_aload_n C rfl 3 rfl dX7_addPart_31 ?_
        refine j_getf C (Cn := RX7) (T := TX7) (N := 2) fin_X7_addPart_RX7 2 rfl rfl 0 (by decide) (by decide +kernel) rfl dX7_addPart_32 ?_
        refine j_iload C 0 rfl dX7_addPart_35 ?_
        refine j_bald C 3 rfl (j := i) (by omega) (by omega) (v := (nI (gd ys i))) (hg i (by omega)) dX7_addPart_37 ?_
        refine j_resv (k1 := 0) (n1 := 0) C (j_runV C (c_X7_add (xs := act xs (seg (gd ys) a (i - a))) (a := gd ys i) hR (by omega) (L6_act _ h6 (L6_seg hy6 (by omega))) (hy6 i (by omega)) hh) gX7_addPart_X7_add rfl hdV_X7_add ⟨Nat.le_of_ble_eq_true rfl, Nat.le_of_ble_eq_true rfl⟩ ⟨Nat.le_of_ble_eq_true rfl, Nat.le_of_ble_eq_true rfl⟩ 0 rfl rfl rfl [0, 1] rfl (by decide) rfl (Nat.le_of_ble_eq_true rfl) dX7_addPart_38) (wr := [(r2, .inr (9, [.ref lt2, .int (nI ys.length)])), (lt2, .inl (cy 0, R2, .inl g))]) [2, 3] rfl (by decide) (by decide) (Nat.le_refl _) (Nat.le_refl _) (fun h2 hh2 => ?_)
        refine j_ws (ws1 := [(r, .inr (9, [.ref lt, .int (nI ((psh (act xs (seg (gd ys) a (i - a))) (gd ys i)).length))])), (lt, .inl (cy 0, R, .inl h2)), (r2, .inr (9, [.ref lt2, .int (nI ys.length)])), (lt2, .inl (cy 0, R2, .inl g))]) [2, 3, 0, 1] rfl (by decide) ?_
        have hst : psh (act xs (seg (gd ys) a (i - a))) (gd ys i) = act xs (seg (gd ys) a (i + 1 - a)) := by
          rw [show i + 1 - a = i - a + 1 by omega, seg_snoc, act_app, show a + (i - a) = i by omega]; rfl
        rw [hst] at hh2 ⊢
        refine j_iinc C (v := (nI (i + 1))) (lo1 := [(5, .int (nI (i + 1))), (3, .int (nI b)), (0, .ref r), (1, .ref r2)]) 0 rfl (fx_inc i 1) (by decide) rfl dX7_addPart_41 ?_
        refine j_goto C (tgt := 15) (by decide) dX7_addPart_44 ?_
        refine j_lo (lo1 := [(5, .int (nI (i + 1))), (3, .int (nI b)), (0, .ref r), (1, .ref r2)]) [0, 1, 2, 3] rfl ?_
        exact ih (i + 1) h2 (by omega) ⟨by omega, by omega⟩ hh2
  have h0 := lp (b + 1) a f (by omega) ⟨by omega, by omega⟩
  rw [Nat.sub_self, seg_0] at h0
  refine j_iload_n C rfl 2 rfl dX7_addPart_0 ?_
  refine j_if_le C (P := a = 0) (fx_le0 (by omega)) (tgt := 8) (by decide) dX7_addPart_1 (fun ht => ?_) (fun hq => ?_)
  · subst ht
    refine j_iconst C (v := (nI 0)) (by decide) dX7_addPart_8 ?_
    refine j_istore C (lo1 := [(4, .int (nI 0)), (0, .ref r), (1, .ref r2), (2, .int (nI 0)), (3, .int (nI b))]) (by decide) rfl dX7_addPart_9 ?_
    refine j_iload C 0 rfl dX7_addPart_11 ?_
    refine j_istore C (lo1 := [(5, .int (nI 0)), (4, .int (nI 0)), (0, .ref r), (1, .ref r2), (2, .int (nI 0)), (3, .int (nI b))]) (by decide) rfl dX7_addPart_13 ?_
    refine j_lo (lo1 := [(5, .int (nI 0)), (3, .int (nI b)), (0, .ref r), (1, .ref r2)]) [0, 5, 2, 3] rfl ?_
    exact h0 hf
  · refine j_iload_n C rfl 2 rfl dX7_addPart_4 ?_
    refine j_goto C (tgt := 9) (by decide) dX7_addPart_5 ?_
    refine j_istore C (lo1 := [(4, .int (nI a)), (0, .ref r), (1, .ref r2), (2, .int (nI a)), (3, .int (nI b))]) (by decide) rfl dX7_addPart_9 ?_
    refine j_iload C 0 rfl dX7_addPart_11 ?_
    refine j_istore C (lo1 := [(5, .int (nI a)), (4, .int (nI a)), (0, .ref r), (1, .ref r2), (2, .int (nI a)), (3, .int (nI b))]) (by decide) rfl dX7_addPart_13 ?_
    refine j_lo (lo1 := [(5, .int (nI a)), (3, .int (nI b)), (0, .ref r), (1, .ref r2)]) [0, 5, 2, 3] rfl ?_
    exact h0 hf
set_option maxRecDepth 100000 in
theorem fin_X7_addPartInverse_RX7 : ∀ w ∈ u_ws RX7 TX7 2, w ∈ wsX7_addPartInverse := by decide +kernel
set_option maxHeartbeats 4000000 in
set_option maxRecDepth 100000 in
/-- addPartInverse: those letters, inverted -/
theorem c_X7_addPartInverse {l : Launch} {G : va_G} {cy : Nat → ClassId} {r lt R r2 lt2 R2 : Nat} {xs ys : List Nat} {f g : Nat → Int32} (hR : R < 2 ^ 20) (hR2 : R2 < 2 ^ 20) {a b : Nat} (hx : xs.length + ys.length ≤ R) (hab : a ≤ b ∧ b ≤ ys.length) (h6 : L6 xs) (hy6 : L6 ys) (hf : Hd f xs) (hg : Hd g ys) (hyR : ys.length ≤ R2)  : Kv l yX7_addPartInverse wsX7_addPartInverse G cy [.ref r, .ref r2, .int (nI a), .int (nI b)] [(r, .inr (9, [.ref lt, .int (nI xs.length)])), (lt, .inl (cy 0, R, .inl f)), (r2, .inr (9, [.ref lt2, .int (nI ys.length)])), (lt2, .inl (cy 0, R2, .inl g))] (fun h : Nat → Int32 => Hd h (act xs (iv (seg (gd ys) a (b - a))))) (fun h => [(r, .inr (9, [.ref lt, .int (nI ((act xs (iv (seg (gd ys) a (b - a)))).length))])), (lt, .inl (cy 0, R, .inl h)), (r2, .inr (9, [.ref lt2, .int (nI ys.length)])), (lt2, .inl (cy 0, R2, .inl g))]) 1 0 0 21 := by
  refine Kv_of (cc := cX7_addPartInverse) (nL := 6) (by decide) rfl (Nat.le_of_ble_eq_true rfl) ?_
  intro p e s m args below meth c A C hnm
  refine j_lo (lo1 := [(0, .ref r), (1, .ref r2), (2, .int (nI a)), (3, .int (nI b))]) [0, 1, 2, 3] rfl ?_
  have lp : ∀ (d9 : Nat) (j : Nat) (h : Nat → Int32), j - a < d9 → (a ≤ j ∧ j ≤ b) → (Hd h (act xs (iv (seg (gd ys) j (b - j))))) → J p l e (fz_rm 1 0 0 21) s m args below meth c (MQ below (va_Qv (fun h : Nat → Int32 => Hd h (act xs (iv (seg (gd ys) a (b - a))))) (fz_B G (fun h => [(r, .inr (9, [.ref lt, .int (nI ((act xs (iv (seg (gd ys) a (b - a)))).length))])), (lt, .inl (cy 0, R, .inl h)), (r2, .inr (9, [.ref lt2, .int (nI ys.length)])), (lt2, .inl (cy 0, R2, .inl g))]) A) A) args s 0 0 A) G A 6 [(r, .inr (9, [.ref lt, .int (nI ((act xs (iv (seg (gd ys) j (b - j)))).length))])), (lt, .inl (cy 0, R, .inl h)), (r2, .inr (9, [.ref lt2, .int (nI ys.length)])), (lt2, .inl (cy 0, R2, .inl g))] 0 0 24 [(5, .int (nI j - 1)), (2, .int (nI a)), (0, .ref r), (1, .ref r2)] [] := by
    intro d9
    induction d9 with
    | zero => intro j h hd9; exact absurd hd9 (Nat.not_lt_zero _)
    | succ d9 ih =>
      intro j h hd9 hj hh
      refine j_iload C 0 rfl dX7_addPartInverse_24 ?_
      refine j_iload_n C rfl 1 rfl dX7_addPartInverse_26 ?_
      refine j_icmp_lt C (P := j = a) (fx_dnlt (by omega) (by omega) hj.1) (tgt := 54) (by decide) dX7_addPartInverse_27 (fun ht => ?_) (fun hq => ?_)
      · subst ht
        exact j_vret C (h) (hh) [0, 1, 2, 3] rfl (by decide) (Nat.le_of_ble_eq_true rfl) (Nat.le_of_ble_eq_true rfl) dX7_addPartInverse_54
      · refine j_iload C 0 rfl dX7_addPartInverse_30 ?_
        refine j_if_lt C (P := j = 0) (fx_dn (by omega)) (tgt := 54) (by decide) dX7_addPartInverse_32 (fun ht => absurd ht (by omega)) (fun hq => ?_)
        obtain ⟨j, rfl⟩ : ∃ z, j = z + 1 := ⟨j - 1, by omega⟩
        have hlen := act_len (iv (seg (gd ys) (j + 1) (b - (j + 1)))) xs
        rw [iv_len, seg_len] at hlen
        refine j_leq (lo1 := [(5, .int (nI j)), (2, .int (nI a)), (0, .ref r), (1, .ref r2)]) (by rw [nI_pred]) ?_
        refine j_aload_n C rfl 2 rfl dX7_addPartInverse_35 ?_
        refine j_aload_n C rfl 3 rfl dX7_addPartInverse_36 ?_
        refine j_getf C (Cn := RX7) (T := TX7) (N := 2) fin_X7_addPartInverse_RX7 2 rfl rfl 0 (by decide) (by decide +kernel) rfl dX7_addPartInverse_37 ?_
        refine j_iload C 0 rfl dX7_addPartInverse_40 ?_
        refine j_bald C 3 rfl (j := j) (by omega) (by omega) (v := (nI (gd ys j))) (hg j (by omega)) dX7_addPartInverse_42 ?_
        refine j_iconst C (v := (nI 1)) (by decide) dX7_addPartInverse_43 ?_
        refine j_ixor C (v := (nI (fv (gd ys j)))) (fx_fv (gd ys j)) dX7_addPartInverse_44 ?_
        refine j_resv (k1 := 0) (n1 := 0) C (j_runV C (c_X7_add (xs := act xs (iv (seg (gd ys) (j + 1) (b - (j + 1))))) (a := fv (gd ys j)) hR (by omega) (L6_act _ h6 (L6_iv (L6_seg hy6 (by omega)))) (fv_lt _ (hy6 j (by omega))) hh) gX7_addPartInverse_X7_add rfl hdV_X7_add ⟨Nat.le_of_ble_eq_true rfl, Nat.le_of_ble_eq_true rfl⟩ ⟨Nat.le_of_ble_eq_true rfl, Nat.le_of_ble_eq_true rfl⟩ 0 rfl rfl rfl [0, 1] rfl (by decide) rfl (Nat.le_of_ble_eq_true rfl) dX7_addPartInverse_45) (wr := [(r2, .inr (9, [.ref lt2, .int (nI ys.length)])), (lt2, .inl (cy 0, R2, .inl g))]) [2, 3] rfl (by decide) (by decide) (Nat.le_refl _) (Nat.le_refl _) (fun h2 hh2 => ?_)
        refine j_ws (ws1 := [(r, .inr (9, [.ref lt, .int (nI ((psh (act xs (iv (seg (gd ys) (j + 1) (b - (j + 1))))) (fv (gd ys j))).length))])), (lt, .inl (cy 0, R, .inl h2)), (r2, .inr (9, [.ref lt2, .int (nI ys.length)])), (lt2, .inl (cy 0, R2, .inl g))]) [2, 3, 0, 1] rfl (by decide) ?_
        have hst : psh (act xs (iv (seg (gd ys) (j + 1) (b - (j + 1))))) (fv (gd ys j)) = act xs (iv (seg (gd ys) j (b - j))) := by
          rw [show b - j = b - (j + 1) + 1 by omega, seg_cons, iv_cons, act_app]; rfl
        rw [hst] at hh2 ⊢
        refine j_iinc C (v := (nI j - 1)) (lo1 := [(5, .int (nI j - 1)), (2, .int (nI a)), (0, .ref r), (1, .ref r2)]) 0 rfl (fx_dec j) (by decide) rfl dX7_addPartInverse_48 ?_
        refine j_goto C (tgt := 24) (by decide) dX7_addPartInverse_51 ?_
        refine j_lo (lo1 := [(5, .int (nI j - 1)), (2, .int (nI a)), (0, .ref r), (1, .ref r2)]) [0, 1, 2, 3] rfl ?_
        exact ih j h2 (by omega) ⟨by omega, by omega⟩ hh2
  have h0 := lp (b + 1) b f (by omega) ⟨by omega, by omega⟩
  rw [Nat.sub_self, seg_0] at h0
  refine j_iload_n C rfl 3 rfl dX7_addPartInverse_0 ?_
  refine j_aload_n C rfl 1 rfl dX7_addPartInverse_1 ?_
  refine j_getf C (Cn := RX7) (T := TX7) (N := 2) fin_X7_addPartInverse_RX7 2 rfl rfl 1 (by decide) (by decide +kernel) rfl dX7_addPartInverse_2 ?_
  refine j_icmp_ge C (P := ys.length ≤ b) (nI_leI (by omega) (by omega)) (tgt := 12) (by decide) dX7_addPartInverse_5 (fun ht => ?_) (fun hq => ?_)
  · have hb9 : b = ys.length := by omega
    subst hb9
    refine j_aload_n C rfl 1 rfl dX7_addPartInverse_12 ?_
    refine j_getf C (Cn := RX7) (T := TX7) (N := 2) fin_X7_addPartInverse_RX7 2 rfl rfl 1 (by decide) (by decide +kernel) rfl dX7_addPartInverse_13 ?_
    refine j_iconst C (v := (nI 1)) (by decide) dX7_addPartInverse_16 ?_
    refine j_isub C (v := (nI ys.length - 1)) (fx_m1 _) dX7_addPartInverse_17 ?_
    refine j_istore C (lo1 := [(4, .int (nI ys.length - 1)), (0, .ref r), (1, .ref r2), (2, .int (nI a)), (3, .int (nI ys.length))]) (by decide) rfl dX7_addPartInverse_18 ?_
    refine j_iload C 0 rfl dX7_addPartInverse_20 ?_
    refine j_istore C (lo1 := [(5, .int (nI ys.length - 1)), (4, .int (nI ys.length - 1)), (0, .ref r), (1, .ref r2), (2, .int (nI a)), (3, .int (nI ys.length))]) (by decide) rfl dX7_addPartInverse_22 ?_
    refine j_lo (lo1 := [(5, .int (nI ys.length - 1)), (2, .int (nI a)), (0, .ref r), (1, .ref r2)]) [0, 4, 2, 3] rfl ?_
    exact h0 hf
  · refine j_iload_n C rfl 3 rfl dX7_addPartInverse_8 ?_
    refine j_goto C (tgt := 16) (by decide) dX7_addPartInverse_9 ?_
    refine j_iconst C (v := (nI 1)) (by decide) dX7_addPartInverse_16 ?_
    refine j_isub C (v := (nI b - 1)) (fx_m1 _) dX7_addPartInverse_17 ?_
    refine j_istore C (lo1 := [(4, .int (nI b - 1)), (0, .ref r), (1, .ref r2), (2, .int (nI a)), (3, .int (nI b))]) (by decide) rfl dX7_addPartInverse_18 ?_
    refine j_iload C 0 rfl dX7_addPartInverse_20 ?_
    refine j_istore C (lo1 := [(5, .int (nI b - 1)), (4, .int (nI b - 1)), (0, .ref r), (1, .ref r2), (2, .int (nI a)), (3, .int (nI b))]) (by decide) rfl dX7_addPartInverse_22 ?_
    refine j_lo (lo1 := [(5, .int (nI b - 1)), (2, .int (nI a)), (0, .ref r), (1, .ref r2)]) [0, 4, 2, 3] rfl ?_
    exact h0 hf
set_option maxRecDepth 100000 in
theorem fin_X7_set_RX7 : ∀ w ∈ u_ws RX7 TX7 2, w ∈ wsX7_set := by decide +kernel
set_option maxHeartbeats 4000000 in
set_option maxRecDepth 100000 in
/-- set: a copy -/
theorem c_X7_set {l : Launch} {G : va_G} {cy : Nat → ClassId} {r lt R r2 lt2 R2 : Nat} {ys : List Nat} {sz : Int32} {f g : Nat → Int32} (hR : R < 2 ^ 20) (hR2 : R2 < 2 ^ 20) (hx : ys.length ≤ R) (hy6 : L6 ys) (hg : Hd g ys) (hyR : ys.length ≤ R2) : Kv l yX7_set wsX7_set G cy [.ref r, .ref r2] [(r, .inr (9, [.ref lt, .int sz])), (lt, .inl (cy 0, R, .inl f)), (r2, .inr (9, [.ref lt2, .int (nI ys.length)])), (lt2, .inl (cy 0, R2, .inl g))] (fun h : Nat → Int32 => Hd h ys) (fun h => [(r, .inr (9, [.ref lt, .int (nI ys.length)])), (lt, .inl (cy 0, R, .inl h)), (r2, .inr (9, [.ref lt2, .int (nI ys.length)])), (lt2, .inl (cy 0, R2, .inl g))]) 0 0 0 0 := by
  refine Kv_of (cc := cX7_set) (nL := 3) (by decide) rfl (Nat.le_of_ble_eq_true rfl) ?_
  intro p e s m args below meth c A C hnm
  refine j_lo (lo1 := [(0, .ref r), (1, .ref r2)]) [0, 1] rfl ?_
  refine j_aload_n C rfl 0 rfl dX7_set_0 ?_
  refine j_aload_n C rfl 1 rfl dX7_set_1 ?_
  refine j_getf C (Cn := RX7) (T := TX7) (N := 2) fin_X7_set_RX7 2 rfl rfl 1 (by decide) (by decide +kernel) rfl dX7_set_2 ?_
  refine j_aload_n C rfl 0 rfl dX7_set_5 ?_
  refine j_getf C (Cn := RX7) (T := TX7) (N := 2) fin_X7_set_RX7 0 rfl rfl 0 (by decide) (by decide +kernel) rfl dX7_set_6 ?_
  refine j_alen C 1 0 rfl rfl (v := (nI R)) rfl dX7_set_9 ?_
  refine j_icmp_ge C (P := R ≤ ys.length) (nI_leI (by omega) (by omega)) (tgt := 20) (by decide) dX7_set_10 (fun ht => ?_) (fun hq => ?_)
  · have hR9 : R = ys.length := by omega
    have lp : ∀ (d9 : Nat) (i : Nat) (h : Nat → Int32), ys.length - i < d9 → (i ≤ ys.length) → (∀ z, z < i → h z = nI (gd ys z)) → J p l e (fz_rm 0 0 0 0) s m args below meth c (MQ below (va_Qv (fun h : Nat → Int32 => Hd h ys) (fz_B G (fun h => [(r, .inr (9, [.ref lt, .int (nI ys.length)])), (lt, .inl (cy 0, R, .inl h)), (r2, .inr (9, [.ref lt2, .int (nI ys.length)])), (lt2, .inl (cy 0, R2, .inl g))]) A) A) args s 0 0 A) G A 3 [(r, .inr (9, [.ref lt, .int (nI ys.length)])), (lt, .inl (cy 0, R, .inl h)), (r2, .inr (9, [.ref lt2, .int (nI ys.length)])), (lt2, .inl (cy 0, R2, .inl g))] 0 0 30 [(2, .int (nI i)), (0, .ref r), (1, .ref r2)] [] := by
      intro d9
      induction d9 with
      | zero => intro i h hd9; exact absurd hd9 (Nat.not_lt_zero _)
      | succ d9 ih =>
        intro i h hd9 hi hh
        refine j_iload_n C rfl 0 rfl dX7_set_30 ?_
        refine j_aload_n C rfl 1 rfl dX7_set_31 ?_
        refine j_getf C (Cn := RX7) (T := TX7) (N := 2) fin_X7_set_RX7 0 rfl rfl 1 (by decide) (by decide +kernel) rfl dX7_set_32 ?_
        refine j_icmp_ge C (P := ys.length ≤ i) (nI_leI (by omega) (by omega)) (tgt := 56) (by decide) dX7_set_35 (fun ht => ?_) (fun hq => ?_)
        · exact j_vret C (h) (fun i9 hi9 => hh i9 (by omega)) [0, 1, 2, 3] rfl (by decide) (Nat.le_of_ble_eq_true rfl) (Nat.le_of_ble_eq_true rfl) dX7_set_56
        · refine j_aload_n C rfl 1 rfl dX7_set_38 ?_
          refine j_getf C (Cn := RX7) (T := TX7) (N := 2) fin_X7_set_RX7 0 rfl rfl 0 (by decide) (by decide +kernel) rfl dX7_set_39 ?_
          refine j_iload_n C rfl 0 rfl dX7_set_42 ?_
          refine j_aload_n C rfl 2 rfl dX7_set_43 ?_
          refine j_getf C (Cn := RX7) (T := TX7) (N := 2) fin_X7_set_RX7 2 rfl rfl 0 (by decide) (by decide +kernel) rfl dX7_set_44 ?_
          refine j_iload_n C rfl 0 rfl dX7_set_47 ?_
          refine j_bald C 3 rfl (j := i) (by omega) (by omega) (v := (nI (gd ys i))) (hg i (by omega)) dX7_set_48 ?_
          have hl6 := hy6 i (by omega)
          refine j_bast C 1 rfl (j := i) (by omega) (by omega) (fx_nar (by omega)) (ws1 := [(r, .inr (9, [.ref lt, .int (nI ys.length)])), (lt, .inl (cy 0, R, .inl (upd h i (nI (gd ys i))))), (r2, .inr (9, [.ref lt2, .int (nI ys.length)])), (lt2, .inl (cy 0, R2, .inl g))]) rfl dX7_set_49 ?_
          refine j_iinc C (v := (nI (i + 1))) (lo1 := [(2, .int (nI (i + 1))), (0, .ref r), (1, .ref r2)]) 0 rfl (fx_inc i 1) (by decide) rfl dX7_set_50 ?_
          refine j_goto C (tgt := 30) (by decide) dX7_set_53 ?_
          refine j_lo (lo1 := [(2, .int (nI (i + 1))), (0, .ref r), (1, .ref r2)]) [0, 1, 2] rfl ?_
          refine ih (i + 1) _ (by omega) (by omega) (fun z hz => ?_)
          rcases Nat.lt_or_ge z i with q9 | q9
          · rw [pk_un (by omega)]; exact hh z q9
          · rw [show z = i by omega, pk_us]
    have h0 := lp (ys.length + 1) 0 f (by omega) (by omega) (fun z hz => absurd hz (Nat.not_lt_zero _))
    refine j_aload_n C rfl 0 rfl dX7_set_20 ?_
    refine j_getf C (Cn := RX7) (T := TX7) (N := 2) fin_X7_set_RX7 0 rfl rfl 0 (by decide) (by decide +kernel) rfl dX7_set_21 ?_
    refine j_alen C 1 0 rfl rfl (v := (nI R)) rfl dX7_set_24 ?_
    refine j_top (y := (nI ys.length)) (by rw [hR9]) ?_
    refine j_putf C (Cn := RX7) (T := TX7) (ty := tyX7) (N := 2) (ws1 := [(r, .inr (9, [.ref lt, .int (nI ys.length)])), (lt, .inl (cy 0, R, .inl f)), (r2, .inr (9, [.ref lt2, .int (nI ys.length)])), (lt2, .inl (cy 0, R2, .inl g))]) fin_X7_set_RX7 tyX7_ok nmX7 0 rfl rfl 1 (by decide) (by decide +kernel) rfl rfl rfl (Nat.le_of_ble_eq_true rfl) rfl dX7_set_25 ?_
    refine j_iconst C (v := (nI 0)) (by decide) dX7_set_28 ?_
    refine j_istore_n C (lo1 := [(2, .int (nI 0)), (0, .ref r), (1, .ref r2)]) rfl (by decide) rfl dX7_set_29 ?_
    refine j_lo (lo1 := [(2, .int (nI 0)), (0, .ref r), (1, .ref r2)]) [0, 1, 2] rfl ?_
    exact h0
  · have lp : ∀ (d9 : Nat) (i : Nat) (h : Nat → Int32), ys.length - i < d9 → (i ≤ ys.length) → (∀ z, z < i → h z = nI (gd ys z)) → J p l e (fz_rm 0 0 0 0) s m args below meth c (MQ below (va_Qv (fun h : Nat → Int32 => Hd h ys) (fz_B G (fun h => [(r, .inr (9, [.ref lt, .int (nI ys.length)])), (lt, .inl (cy 0, R, .inl h)), (r2, .inr (9, [.ref lt2, .int (nI ys.length)])), (lt2, .inl (cy 0, R2, .inl g))]) A) A) args s 0 0 A) G A 3 [(r, .inr (9, [.ref lt, .int (nI ys.length)])), (lt, .inl (cy 0, R, .inl h)), (r2, .inr (9, [.ref lt2, .int (nI ys.length)])), (lt2, .inl (cy 0, R2, .inl g))] 0 0 30 [(2, .int (nI i)), (0, .ref r), (1, .ref r2)] [] := by
      intro d9
      induction d9 with
      | zero => intro i h hd9; exact absurd hd9 (Nat.not_lt_zero _)
      | succ d9 ih =>
        intro i h hd9 hi hh
        refine j_iload_n C rfl 0 rfl dX7_set_30 ?_
        refine j_aload_n C rfl 1 rfl dX7_set_31 ?_
        refine j_getf C (Cn := RX7) (T := TX7) (N := 2) fin_X7_set_RX7 0 rfl rfl 1 (by decide) (by decide +kernel) rfl dX7_set_32 ?_
        refine j_icmp_ge C (P := ys.length ≤ i) (nI_leI (by omega) (by omega)) (tgt := 56) (by decide) dX7_set_35 (fun ht => ?_) (fun hq => ?_)
        · exact j_vret C (h) (fun i9 hi9 => hh i9 (by omega)) [0, 1, 2, 3] rfl (by decide) (Nat.le_of_ble_eq_true rfl) (Nat.le_of_ble_eq_true rfl) dX7_set_56
        · refine j_aload_n C rfl 1 rfl dX7_set_38 ?_
          refine j_getf C (Cn := RX7) (T := TX7) (N := 2) fin_X7_set_RX7 0 rfl rfl 0 (by decide) (by decide +kernel) rfl dX7_set_39 ?_
          refine j_iload_n C rfl 0 rfl dX7_set_42 ?_
          refine j_aload_n C rfl 2 rfl dX7_set_43 ?_
          refine j_getf C (Cn := RX7) (T := TX7) (N := 2) fin_X7_set_RX7 2 rfl rfl 0 (by decide) (by decide +kernel) rfl dX7_set_44 ?_
          refine j_iload_n C rfl 0 rfl dX7_set_47 ?_
          refine j_bald C 3 rfl (j := i) (by omega) (by omega) (v := (nI (gd ys i))) (hg i (by omega)) dX7_set_48 ?_
          have hl6 := hy6 i (by omega)
          refine j_bast C 1 rfl (j := i) (by omega) (by omega) (fx_nar (by omega)) (ws1 := [(r, .inr (9, [.ref lt, .int (nI ys.length)])), (lt, .inl (cy 0, R, .inl (upd h i (nI (gd ys i))))), (r2, .inr (9, [.ref lt2, .int (nI ys.length)])), (lt2, .inl (cy 0, R2, .inl g))]) rfl dX7_set_49 ?_
          refine j_iinc C (v := (nI (i + 1))) (lo1 := [(2, .int (nI (i + 1))), (0, .ref r), (1, .ref r2)]) 0 rfl (fx_inc i 1) (by decide) rfl dX7_set_50 ?_
          refine j_goto C (tgt := 30) (by decide) dX7_set_53 ?_
          refine j_lo (lo1 := [(2, .int (nI (i + 1))), (0, .ref r), (1, .ref r2)]) [0, 1, 2] rfl ?_
          refine ih (i + 1) _ (by omega) (by omega) (fun z hz => ?_)
          rcases Nat.lt_or_ge z i with q9 | q9
          · rw [pk_un (by omega)]; exact hh z q9
          · rw [show z = i by omega, pk_us]
    have h0 := lp (ys.length + 1) 0 f (by omega) (by omega) (fun z hz => absurd hz (Nat.not_lt_zero _))
    refine j_aload_n C rfl 1 rfl dX7_set_13 ?_
    refine j_getf C (Cn := RX7) (T := TX7) (N := 2) fin_X7_set_RX7 2 rfl rfl 1 (by decide) (by decide +kernel) rfl dX7_set_14 ?_
    refine j_goto C (tgt := 25) (by decide) dX7_set_17 ?_
    refine j_putf C (Cn := RX7) (T := TX7) (ty := tyX7) (N := 2) (ws1 := [(r, .inr (9, [.ref lt, .int (nI ys.length)])), (lt, .inl (cy 0, R, .inl f)), (r2, .inr (9, [.ref lt2, .int (nI ys.length)])), (lt2, .inl (cy 0, R2, .inl g))]) fin_X7_set_RX7 tyX7_ok nmX7 0 rfl rfl 1 (by decide) (by decide +kernel) rfl rfl rfl (Nat.le_of_ble_eq_true rfl) rfl dX7_set_25 ?_
    refine j_iconst C (v := (nI 0)) (by decide) dX7_set_28 ?_
    refine j_istore_n C (lo1 := [(2, .int (nI 0)), (0, .ref r), (1, .ref r2)]) rfl (by decide) rfl dX7_set_29 ?_
    refine j_lo (lo1 := [(2, .int (nI 0)), (0, .ref r), (1, .ref r2)]) [0, 1, 2] rfl ?_
    exact h0
