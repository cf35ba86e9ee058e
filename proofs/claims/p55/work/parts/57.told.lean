theorem hdS_L_type : yL_type.cls ≠ "java/lang/invoke/MethodHandle" ∧ yL_type.cls ≠ "java/lang/invoke/VarHandle" ∧ (parseMethodDescriptor yL_type.desc).map (fun d => d.parameters.length) = some 2 := by decide +kernel
theorem hdS_L_word : yL_word.cls ≠ "java/lang/invoke/MethodHandle" ∧ yL_word.cls ≠ "java/lang/invoke/VarHandle" ∧ (parseMethodDescriptor yL_word.desc).map (fun d => d.parameters.length) = some 1 := by decide +kernel
theorem hdV_J0_charAt_5068e : yJ0_charAt_5068e.cls = RJ0 ∧ yJ0_charAt_5068e.cls ≠ "java/lang/invoke/MethodHandle" ∧ yJ0_charAt_5068e.cls ≠ "java/lang/invoke/VarHandle" ∧ (parseMethodDescriptor yJ0_charAt_5068e.desc).map (fun d => d.parameters.length) = some 1 := by decide +kernel
set_option maxHeartbeats 4000000 in
set_option maxRecDepth 100000 in
/-- told -/
theorem c_L_told {l : Launch} {G : va_G} {cy : Nat → ClassId} {h ty aw dr se : Nat} {ad : Nat → Nat} {dl d db x1 : Nat} {dz dn : Int32} {wn : Nat} {xs : List Nat} {tf df ef xf : Nat → Int32} {g : Nat → Option Nat} (hw : wn < 24) (hg : g wn = some d) (ht : xs.length ≤ 30) (h6 : L6 xs) (hxf : Hd xf xs) : Ki l yL_told wsL_told G cy [.ref h, .ref x1] [(h, .inr (11, [.ref ty, .int (nI 0), .ref aw, .int (nI wn), .ref (ad 4), .ref (ad 5), .ref (ad 6), .int (nI 0), .ref (ad 8), .int (nI 0), .ref dr, .ref se, .ref (ad 12), .ref (ad 13), .ref (ad 14), .ref (ad 15), .ref (ad 16), .ref (ad 17)])), (ty, .inl (cy 0, 30, .inl tf)), (aw, .inl (cy 4, 24, .inr (.inr (.inr (.inr g))))), (dr, .inr (9, [.ref dl, .int dz])), (dl, .inl (cy 0, 3600, .inl df)), (d, .inr (9, [.ref db, .int dn])), (db, .inl (cy 0, 60, .inl ef)), (x1, .inl (cy 1, xs.length, .inl xf))] (fun (v : Int32) (u : (Nat → Int32) × (Nat → Int32) × (Nat → Int32)) => v = nI wn ∧ Hd u.1 (red xs) ∧ Hd u.2.1 (red xs)) (fun u => [(h, .inr (11, [.ref ty, .int (nI 0), .ref aw, .int (nI (wn + 1)), .ref (ad 4), .ref (ad 5), .ref (ad 6), .int (nI 0), .ref (ad 8), .int (nI 0), .ref dr, .ref se, .ref (ad 12), .ref (ad 13), .ref (ad 14), .ref (ad 15), .ref (ad 16), .ref (ad 17)])), (ty, .inl (cy 0, 30, .inl u.2.2)), (aw, .inl (cy 4, 24, .inr (.inr (.inr (.inr g))))), (dr, .inr (9, [.ref dl, .int (nI ((red xs).length))])), (dl, .inl (cy 0, 3600, .inl u.1)), (d, .inr (9, [.ref db, .int (nI ((red xs).length))])), (db, .inl (cy 0, 60, .inl u.2.1)), (x1, .inl (cy 1, xs.length, .inl xf))]) 4 0 0 85 := by
  refine Ki_of (cc := cL_told) (nL := 4) (by decide) rfl (Nat.le_of_ble_eq_true rfl) ?_
  intro p e s m args below meth c A C hnm
  refine j_lo (lo1 := [(0, .ref h), (1, .ref x1)]) [0, 1] rfl ?_
  refine j_iconst C (v := (nI 1)) (by decide +kernel) dL_told_0 ?_
  refine j_istore_n C (lo1 := [(2, .int (nI 1)), (0, .ref h), (1, .ref x1)]) rfl (by decide) rfl dL_told_1 ?_
  refine j_iconst C (v := (nI 0)) (by decide +kernel) dL_told_2 ?_
  refine j_istore_n C (lo1 := [(3, .int (nI 0)), (2, .int (nI 1)), (0, .ref h), (1, .ref x1)]) rfl (by decide) rfl dL_told_3 ?_
  refine j_lo (lo1 := [(2, .int (nI 1)), (3, .int (nI 0)), (0, .ref h), (1, .ref x1)]) [1, 0, 2, 3] rfl ?_
  refine j_ws (ws1 := [(h, .inr (11, [.ref ty, .int (nI 0), .ref aw, .int (nI wn), .ref (ad 4), .ref (ad 5), .ref (ad 6), .int (nI 0), .ref (ad 8), .int (nI 0), .ref dr, .ref se, .ref (ad 12), .ref (ad 13), .ref (ad 14), .ref (ad 15), .ref (ad 16), .ref (ad 17)])), (ty, .inl (cy 0, 30, .inl tf)), (aw, .inl (cy 4, 24, .inr (.inr (.inr (.inr g))))), (dr, .inr (9, [.ref dl, .int dz])), (dl, .inl (cy 0, 3600, .inl df)), (d, .inr (9, [.ref db, .int dn])), (db, .inl (cy 0, 60, .inl ef)), (x1, .inl (cy 1, xs.length, .inl xf))]) [0, 1, 2, 3, 4, 5, 6, 7] rfl (by decide) ?_
  have lp : ∀ (d9 : Nat) (k : Nat) (g9 : Nat → Int32), xs.length - k < d9 → (k ≤ xs.length) → (Hd g9 (seg (gd xs) 0 k)) → J p l e (fz_rm 4 0 0 85) s m args below meth c (MQ below (va_Qi (fun (v : Int32) (u : (Nat → Int32) × (Nat → Int32) × (Nat → Int32)) => v = nI wn ∧ Hd u.1 (red xs) ∧ Hd u.2.1 (red xs)) (fz_B G (fun u => [(h, .inr (11, [.ref ty, .int (nI 0), .ref aw, .int (nI (wn + 1)), .ref (ad 4), .ref (ad 5), .ref (ad 6), .int (nI 0), .ref (ad 8), .int (nI 0), .ref dr, .ref se, .ref (ad 12), .ref (ad 13), .ref (ad 14), .ref (ad 15), .ref (ad 16), .ref (ad 17)])), (ty, .inl (cy 0, 30, .inl u.2.2)), (aw, .inl (cy 4, 24, .inr (.inr (.inr (.inr g))))), (dr, .inr (9, [.ref dl, .int (nI ((red xs).length))])), (dl, .inl (cy 0, 3600, .inl u.1)), (d, .inr (9, [.ref db, .int (nI ((red xs).length))])), (db, .inl (cy 0, 60, .inl u.2.1)), (x1, .inl (cy 1, xs.length, .inl xf))]) A) A) args s 0 0 A) G A 4 [(h, .inr (11, [.ref ty, .int (nI ((seg (gd xs) 0 k).length)), .ref aw, .int (nI wn), .ref (ad 4), .ref (ad 5), .ref (ad 6), .int (nI 0), .ref (ad 8), .int (nI 0), .ref dr, .ref se, .ref (ad 12), .ref (ad 13), .ref (ad 14), .ref (ad 15), .ref (ad 16), .ref (ad 17)])), (ty, .inl (cy 0, 30, .inl g9)), (aw, .inl (cy 4, 24, .inr (.inr (.inr (.inr g))))), (dr, .inr (9, [.ref dl, .int dz])), (dl, .inl (cy 0, 3600, .inl df)), (d, .inr (9, [.ref db, .int dn])), (db, .inl (cy 0, 60, .inl ef)), (x1, .inl (cy 1, xs.length, .inl xf))] 0 0 4 [(2, .int 1), (3, .int (nI k)), (0, .ref h), (1, .ref x1)] [] := by
    intro d9
    induction d9 with
    | zero => intro k g9 hd9; exact absurd hd9 (Nat.not_lt_zero _)
    | succ d9 ih =>
      intro k g9 hd9 hk hq5
      refine j_iload_n C rfl 1 rfl dL_told_4 ?_
      refine j_aload_n C rfl 3 rfl dL_told_5 ?_
      refine j_alen C 7 1 rfl rfl (v := (nI xs.length)) rfl dL_told_6 ?_
      refine j_icmp_ge C (P := xs.length ≤ k) (nI_leI (by omega) (by omega)) (tgt := 42) (by decide) dL_told_7 (fun ha => ?_) (fun hb => ?_)
      · have hk9 : k = xs.length := by omega
        subst hk9
        rw [gd_all] at hq5 ⊢
        refine j_iload_n C rfl 0 rfl dL_told_42 ?_
        refine j_if_eq C (P := False) (by decide) (tgt := 53) (by decide) dL_told_43 (fun ht => absurd ht (id)) (fun hq => ?_)
        refine j_aload_n C rfl 2 rfl dL_told_46 ?_
        refine j_resi (k1 := 0) (n1 := 0) C (j_runW C (c_L_word hw hg ht h6 hq5) gL_told_L_word rfl hdS_L_word ⟨Nat.le_of_ble_eq_true rfl, Nat.le_of_ble_eq_true rfl⟩ ⟨Nat.le_of_ble_eq_true rfl, Nat.le_of_ble_eq_true rfl⟩ [0, 1, 2, 3, 4, 5, 6] rfl (by decide) rfl (Nat.le_of_ble_eq_true rfl) dL_told_47) (wr := [(x1, .inl (cy 1, xs.length, .inl xf))]) [7] rfl (by decide) (by decide) (Nat.le_refl _) (Nat.le_refl _) (fun v u hv => ?_)
        refine j_goto C (tgt := 54) (by decide) dL_told_50 ?_
        exact j_iret C rfl (rfl) ((u.1, u.2, g9)) (hv) [1, 2, 3, 4, 5, 6, 7, 0] rfl (by decide) (Nat.le_of_ble_eq_true rfl) (Nat.le_of_ble_eq_true rfl) dL_told_54
      · have hlk : (seg (gd xs) 0 k).length = k := seg_len _ _ _
        have hl6 := h6 k (by omega)
        refine j_iload_n C rfl 0 rfl dL_told_10 ?_
        refine j_aload_n C rfl 2 rfl dL_told_11 ?_
        refine j_lits C rfl dL_told_12 ?_
        refine j_aload_n C rfl 3 rfl dL_told_14 ?_
        refine j_iload_n C rfl 1 rfl dL_told_15 ?_
        refine j_iald C 7 rfl (j := k) (by omega) (by omega) (v := (nI (gd xs k))) (hxf k (by omega)) dL_told_16 ?_
        refine j_resi (k1 := 0) (n1 := 0) C (j_runVs C (c_J0_charAt hl6) gL_told_J0_charAt_5068e rfl hdV_J0_charAt_5068e ⟨Nat.le_of_ble_eq_true rfl, Nat.le_of_ble_eq_true rfl⟩ ⟨Nat.le_of_ble_eq_true rfl, Nat.le_of_ble_eq_true rfl⟩ [] rfl rfl rfl (Nat.le_of_ble_eq_true rfl) dL_told_17) (wr := [(h, .inr (11, [.ref ty, .int (nI ((seg (gd xs) 0 k).length)), .ref aw, .int (nI wn), .ref (ad 4), .ref (ad 5), .ref (ad 6), .int (nI 0), .ref (ad 8), .int (nI 0), .ref dr, .ref se, .ref (ad 12), .ref (ad 13), .ref (ad 14), .ref (ad 15), .ref (ad 16), .ref (ad 17)])), (ty, .inl (cy 0, 30, .inl g9)), (aw, .inl (cy 4, 24, .inr (.inr (.inr (.inr g))))), (dr, .inr (9, [.ref dl, .int dz])), (dl, .inl (cy 0, 3600, .inl df)), (d, .inr (9, [.ref db, .int dn])), (db, .inl (cy 0, 60, .inl ef)), (x1, .inl (cy 1, xs.length, .inl xf))]) [0, 1, 2, 3, 4, 5, 6, 7] rfl (by decide) (by decide) (Nat.le_refl _) (Nat.le_refl _) (fun v u hv => ?_)
        refine j_weq (ws1 := [(h, .inr (11, [.ref ty, .int (nI ((seg (gd xs) 0 k).length)), .ref aw, .int (nI wn), .ref (ad 4), .ref (ad 5), .ref (ad 6), .int (nI 0), .ref (ad 8), .int (nI 0), .ref dr, .ref se, .ref (ad 12), .ref (ad 13), .ref (ad 14), .ref (ad 15), .ref (ad 16), .ref (ad 17)])), (ty, .inl (cy 0, 30, .inl g9)), (aw, .inl (cy 4, 24, .inr (.inr (.inr (.inr g))))), (dr, .inr (9, [.ref dl, .int dz])), (dl, .inl (cy 0, 3600, .inl df)), (d, .inr (9, [.ref db, .int dn])), (db, .inl (cy 0, 60, .inl ef)), (x1, .inl (cy 1, xs.length, .inl xf))]) (by rfl) ?_
        subst hv
        refine j_resi (k1 := 0) (n1 := 0) C (j_runW C (c_L_type (ts := seg (gd xs) 0 k) (k := gd xs k) hl6 rfl (by omega)) gL_told_L_type rfl hdS_L_type ⟨Nat.le_of_ble_eq_true rfl, Nat.le_of_ble_eq_true rfl⟩ ⟨Nat.le_of_ble_eq_true rfl, Nat.le_of_ble_eq_true rfl⟩ [0, 1] rfl (by decide) rfl (Nat.le_of_ble_eq_true rfl) dL_told_20) (wr := [(aw, .inl (cy 4, 24, .inr (.inr (.inr (.inr g))))), (dr, .inr (9, [.ref dl, .int dz])), (dl, .inl (cy 0, 3600, .inl df)), (d, .inr (9, [.ref db, .int dn])), (db, .inl (cy 0, 60, .inl ef)), (x1, .inl (cy 1, xs.length, .inl xf))]) [2, 3, 4, 5, 6, 7] rfl (by decide) (by decide) (Nat.le_refl _) (Nat.le_refl _) (fun v u hv => ?_)
        subst hv
        have hq2 : Hd (upd g9 (seg (gd xs) 0 k).length (nI (gd xs k))) (seg (gd xs) 0 (k + 1)) := by rw [seg_snoc, Nat.zero_add]; exact Hd_put hq5
        have hln : (seg (gd xs) 0 k).length + 1 = (seg (gd xs) 0 (k + 1)).length := by rw [seg_len, seg_len]
        generalize upd g9 (seg (gd xs) 0 k).length (nI (gd xs k)) = g8 at hq2 ⊢
        refine j_iload_n C rfl 1 rfl dL_told_23 ?_
        refine j_iconst C (v := (nI 1)) (by decide +kernel) dL_told_24 ?_
        refine j_iadd C (v := (nI (k + 1))) (fx_add k 1) dL_told_25 ?_
        refine j_icmp_ne C (P := True) (by rw [hlk]; exact ⟨fun _ => trivial, fun _ => rfl⟩) (tgt := 33) (by decide) dL_told_26 (fun ht => absurd ht (fun z => z trivial)) (fun hq => ?_)
        refine j_iconst C (v := (nI 1)) (by decide +kernel) dL_told_29 ?_
        refine j_goto C (tgt := 34) (by decide) dL_told_30 ?_
        refine j_iand C (v := 1) (by decide) dL_told_34 ?_
        refine j_istore_n C (lo1 := [(2, .int 1), (3, .int (nI k)), (0, .ref h), (1, .ref x1)]) rfl (by decide) rfl dL_told_35 ?_
        refine j_iinc C (v := (nI (k + 1))) (lo1 := [(3, .int (nI (k + 1))), (2, .int 1), (0, .ref h), (1, .ref x1)]) 1 rfl (fx_inc k 1) (by decide) rfl dL_told_36 ?_
        refine j_ws (ws1 := [(h, .inr (11, [.ref ty, .int (nI ((seg (gd xs) 0 k).length + 1)), .ref aw, .int (nI wn), .ref (ad 4), .ref (ad 5), .ref (ad 6), .int (nI 0), .ref (ad 8), .int (nI 0), .ref dr, .ref se, .ref (ad 12), .ref (ad 13), .ref (ad 14), .ref (ad 15), .ref (ad 16), .ref (ad 17)])), (ty, .inl (cy 0, 30, .inl g8)), (aw, .inl (cy 4, 24, .inr (.inr (.inr (.inr g))))), (dr, .inr (9, [.ref dl, .int dz])), (dl, .inl (cy 0, 3600, .inl df)), (d, .inr (9, [.ref db, .int dn])), (db, .inl (cy 0, 60, .inl ef)), (x1, .inl (cy 1, xs.length, .inl xf))]) [6, 7, 0, 1, 2, 3, 4, 5] rfl (by decide) ?_
        rw [hln]
        refine j_goto C (tgt := 4) (by decide) dL_told_39 ?_
        refine j_lo (lo1 := [(2, .int 1), (3, .int (nI (k + 1))), (0, .ref h), (1, .ref x1)]) [1, 0, 2, 3] rfl ?_
        exact ih (k + 1) _ (by omega) (by omega) hq2
  exact lp (xs.length + 1) 0 tf (by omega) (by omega) (Hd_nil _)
theorem hdS_L_length : yL_length.cls ≠ "java/lang/invoke/MethodHandle" ∧ yL_length.cls ≠ "java/lang/invoke/VarHandle" ∧ (parseMethodDescriptor yL_length.desc).map (fun d => d.parameters.length) = some 2 := by decide +kernel
theorem hdS_L_letter : yL_letter.cls ≠ "java/lang/invoke/MethodHandle" ∧ yL_letter.cls ≠ "java/lang/invoke/VarHandle" ∧ (parseMethodDescriptor yL_letter.desc).map (fun d => d.parameters.length) = some 3 := by decide +kernel
set_option maxHeartbeats 4000000 in
set_option maxRecDepth 100000 in
/-- isRow: it is -/
theorem c_L_isRow {l : Launch} {G : va_G} {cy : Nat → ClassId} {h ty aw dr se : Nat} {ad : Nat → Nat} {tn : Int32} {wn : Nat} {g : Nat → Option Nat} {a1 b1 i x1 : Nat} {xs : List Nat} {f1 xf : Nat → Int32} (hw : wn ≤ 24) (hi : i < wn) (hg1 : g i = some a1) (h16 : L6 xs) (hf1 : Hd f1 xs) (hx60 : xs.length ≤ 60) (hxf : Hd xf xs) : Ki l yL_isRow wsL_isRow G cy [.ref h, .int (nI i), .ref x1] [(h, .inr (11, [.ref ty, .int tn, .ref aw, .int (nI wn), .ref (ad 4), .ref (ad 5), .ref (ad 6), .int (nI 0), .ref (ad 8), .int (nI 0), .ref dr, .ref se, .ref (ad 12), .ref (ad 13), .ref (ad 14), .ref (ad 15), .ref (ad 16), .ref (ad 17)])), (aw, .inl (cy 4, 24, .inr (.inr (.inr (.inr g))))), (a1, .inr (9, [.ref b1, .int (nI xs.length)])), (b1, .inl (cy 0, 60, .inl f1)), (x1, .inl (cy 1, xs.length, .inl xf))] (fun (v : Int32) (_ : Unit) => v = 1) (fun _ => [(h, .inr (11, [.ref ty, .int tn, .ref aw, .int (nI wn), .ref (ad 4), .ref (ad 5), .ref (ad 6), .int (nI 0), .ref (ad 8), .int (nI 0), .ref dr, .ref se, .ref (ad 12), .ref (ad 13), .ref (ad 14), .ref (ad 15), .ref (ad 16), .ref (ad 17)])), (aw, .inl (cy 4, 24, .inr (.inr (.inr (.inr g))))), (a1, .inr (9, [.ref b1, .int (nI xs.length)])), (b1, .inl (cy 0, 60, .inl f1)), (x1, .inl (cy 1, xs.length, .inl xf))]) 4 0 0 85 := by
  refine Ki_of (cc := cL_isRow) (nL := 5) (by decide) rfl (Nat.le_of_ble_eq_true rfl) ?_
  intro p e s m args below meth c A C hnm
  refine j_lo (lo1 := [(0, .ref h), (1, .int (nI i)), (2, .ref x1)]) [0, 1, 2] rfl ?_
  refine j_aload_n C rfl 0 rfl dL_isRow_0 ?_
  refine j_iload_n C rfl 1 rfl dL_isRow_1 ?_
  refine j_resi (k1 := 0) (n1 := 0) C (j_runW C (c_L_length hw hi hg1) gL_isRow_L_length rfl hdS_L_length ⟨Nat.le_of_ble_eq_true rfl, Nat.le_of_ble_eq_true rfl⟩ ⟨Nat.le_of_ble_eq_true rfl, Nat.le_of_ble_eq_true rfl⟩ [0, 1, 2] rfl (by decide) rfl (Nat.le_of_ble_eq_true rfl) dL_isRow_2) (wr := [(b1, .inl (cy 0, 60, .inl f1)), (x1, .inl (cy 1, xs.length, .inl xf))]) [3, 4] rfl (by decide) (by decide) (Nat.le_refl _) (Nat.le_refl _) (fun v u hv => ?_)
  subst hv
  refine j_aload_n C rfl 2 rfl dL_isRow_5 ?_
  refine j_alen C 1 1 rfl rfl (v := (nI xs.length)) rfl dL_isRow_6 ?_
  refine j_icmp_ne C (P := True) (⟨fun _ => trivial, fun _ => rfl⟩) (tgt := 14) (by decide) dL_isRow_7 (fun ht => absurd ht (fun z => z trivial)) (fun hq => ?_)
  refine j_iconst C (v := (nI 1)) (by decide +kernel) dL_isRow_10 ?_
  refine j_goto C (tgt := 15) (by decide) dL_isRow_11 ?_
  refine j_istore_n C (lo1 := [(3, .int (nI 1)), (0, .ref h), (1, .int (nI i)), (2, .ref x1)]) rfl (by decide) rfl dL_isRow_15 ?_
  refine j_iconst C (v := (nI 0)) (by decide +kernel) dL_isRow_16 ?_
  refine j_istore C (lo1 := [(4, .int (nI 0)), (3, .int (nI 1)), (0, .ref h), (1, .int (nI i)), (2, .ref x1)]) (by decide) rfl dL_isRow_17 ?_
  refine j_lo (lo1 := [(3, .int (nI 1)), (4, .int (nI 0)), (0, .ref h), (1, .int (nI i)), (2, .ref x1)]) [1, 0, 2, 3, 4] rfl ?_
  refine j_ws (ws1 := [(h, .inr (11, [.ref ty, .int tn, .ref aw, .int (nI wn), .ref (ad 4), .ref (ad 5), .ref (ad 6), .int (nI 0), .ref (ad 8), .int (nI 0), .ref dr, .ref se, .ref (ad 12), .ref (ad 13), .ref (ad 14), .ref (ad 15), .ref (ad 16), .ref (ad 17)])), (aw, .inl (cy 4, 24, .inr (.inr (.inr (.inr g))))), (a1, .inr (9, [.ref b1, .int (nI xs.length)])), (b1, .inl (cy 0, 60, .inl f1)), (x1, .inl (cy 1, xs.length, .inl xf))]) [2, 3, 4, 0, 1] rfl (by decide) ?_
  have lp : ∀ (d9 : Nat) (k : Nat), xs.length - k < d9 → (k ≤ xs.length) → J p l e (fz_rm 4 0 0 85) s m args below meth c (MQ below (va_Qi (fun (v : Int32) (_ : Unit) => v = 1) (fz_B G (fun _ => [(h, .inr (11, [.ref ty, .int tn, .ref aw, .int (nI wn), .ref (ad 4), .ref (ad 5), .ref (ad 6), .int (nI 0), .ref (ad 8), .int (nI 0), .ref dr, .ref se, .ref (ad 12), .ref (ad 13), .ref (ad 14), .ref (ad 15), .ref (ad 16), .ref (ad 17)])), (aw, .inl (cy 4, 24, .inr (.inr (.inr (.inr g))))), (a1, .inr (9, [.ref b1, .int (nI xs.length)])), (b1, .inl (cy 0, 60, .inl f1)), (x1, .inl (cy 1, xs.length, .inl xf))]) A) A) args s 0 0 A) G A 5 [(h, .inr (11, [.ref ty, .int tn, .ref aw, .int (nI wn), .ref (ad 4), .ref (ad 5), .ref (ad 6), .int (nI 0), .ref (ad 8), .int (nI 0), .ref dr, .ref se, .ref (ad 12), .ref (ad 13), .ref (ad 14), .ref (ad 15), .ref (ad 16), .ref (ad 17)])), (aw, .inl (cy 4, 24, .inr (.inr (.inr (.inr g))))), (a1, .inr (9, [.ref b1, .int (nI xs.length)])), (b1, .inl (cy 0, 60, .inl f1)), (x1, .inl (cy 1, xs.length, .inl xf))] 0 0 19 [(3, .int 1), (4, .int (nI k)), (0, .ref h), (1, .int (nI i)), (2, .ref x1)] [] := by
    intro d9
    induction d9 with
    | zero => intro k hd9; exact absurd hd9 (Nat.not_lt_zero _)
    | succ d9 ih =>
      intro k hd9 hk
      refine j_iload C 1 rfl dL_isRow_19 ?_
      refine j_aload_n C rfl 4 rfl dL_isRow_21 ?_
      refine j_alen C 4 1 rfl rfl (v := (nI xs.length)) rfl dL_isRow_22 ?_
      refine j_icmp_ge C (P := xs.length ≤ k) (nI_leI (by omega) (by omega)) (tgt := 61) (by decide) dL_isRow_23 (fun ha => ?_) (fun hb => ?_)
      · refine j_iload_n C rfl 0 rfl dL_isRow_61 ?_
        exact j_iret C rfl (rfl) (()) (rfl) [0, 1, 2, 3, 4] rfl (by decide) (Nat.le_of_ble_eq_true rfl) (Nat.le_of_ble_eq_true rfl) dL_isRow_62
      · have hl6 := h16 k (by omega)
        refine j_iload_n C rfl 0 rfl dL_isRow_26 ?_
        refine j_if_eq C (P := False) (by decide) (tgt := 61) (by decide) dL_isRow_27 (fun ht => absurd ht (id)) (fun hq => ?_)
        refine j_aload_n C rfl 2 rfl dL_isRow_30 ?_
        refine j_iload_n C rfl 3 rfl dL_isRow_31 ?_
        refine j_iload C 1 rfl dL_isRow_32 ?_
        refine j_resi (k1 := 0) (n1 := 0) C (j_runW C (c_L_letter hw hi hg1 h16 hf1 hx60 (by omega)) gL_isRow_L_letter rfl hdS_L_letter ⟨Nat.le_of_ble_eq_true rfl, Nat.le_of_ble_eq_true rfl⟩ ⟨Nat.le_of_ble_eq_true rfl, Nat.le_of_ble_eq_true rfl⟩ [0, 1, 2, 3] rfl (by decide) rfl (Nat.le_of_ble_eq_true rfl) dL_isRow_34) (wr := [(x1, .inl (cy 1, xs.length, .inl xf))]) [4] rfl (by decide) (by decide) (Nat.le_refl _) (Nat.le_refl _) (fun v u hv => ?_)
        subst hv
        refine j_lits C rfl dL_isRow_37 ?_
        refine j_aload_n C rfl 4 rfl dL_isRow_39 ?_
        refine j_iload C 1 rfl dL_isRow_40 ?_
        refine j_iald C 0 rfl (j := k) (by omega) (by omega) (v := (nI (gd xs k))) (hxf k (by omega)) dL_isRow_42 ?_
        refine j_resi (k1 := 0) (n1 := 0) C (j_runVs C (c_J0_charAt hl6) gL_isRow_J0_charAt_5068e rfl hdV_J0_charAt_5068e ⟨Nat.le_of_ble_eq_true rfl, Nat.le_of_ble_eq_true rfl⟩ ⟨Nat.le_of_ble_eq_true rfl, Nat.le_of_ble_eq_true rfl⟩ [] rfl rfl rfl (Nat.le_of_ble_eq_true rfl) dL_isRow_43) (wr := [(x1, .inl (cy 1, xs.length, .inl xf)), (h, .inr (11, [.ref ty, .int tn, .ref aw, .int (nI wn), .ref (ad 4), .ref (ad 5), .ref (ad 6), .int (nI 0), .ref (ad 8), .int (nI 0), .ref dr, .ref se, .ref (ad 12), .ref (ad 13), .ref (ad 14), .ref (ad 15), .ref (ad 16), .ref (ad 17)])), (aw, .inl (cy 4, 24, .inr (.inr (.inr (.inr g))))), (a1, .inr (9, [.ref b1, .int (nI xs.length)])), (b1, .inl (cy 0, 60, .inl f1))]) [0, 1, 2, 3, 4] rfl (by decide) (by decide) (Nat.le_refl _) (Nat.le_refl _) (fun v u hv => ?_)
        refine j_weq (ws1 := [(x1, .inl (cy 1, xs.length, .inl xf)), (h, .inr (11, [.ref ty, .int tn, .ref aw, .int (nI wn), .ref (ad 4), .ref (ad 5), .ref (ad 6), .int (nI 0), .ref (ad 8), .int (nI 0), .ref dr, .ref se, .ref (ad 12), .ref (ad 13), .ref (ad 14), .ref (ad 15), .ref (ad 16), .ref (ad 17)])), (aw, .inl (cy 4, 24, .inr (.inr (.inr (.inr g))))), (a1, .inr (9, [.ref b1, .int (nI xs.length)])), (b1, .inl (cy 0, 60, .inl f1))]) (by rfl) ?_
        subst hv
        refine j_icmp_ne C (P := True) (⟨fun _ => trivial, fun _ => rfl⟩) (tgt := 53) (by decide) dL_isRow_46 (fun ht => absurd ht (fun z => z trivial)) (fun hq => ?_)
        refine j_iconst C (v := (nI 1)) (by decide +kernel) dL_isRow_49 ?_
        refine j_goto C (tgt := 54) (by decide) dL_isRow_50 ?_
        refine j_istore_n C (lo1 := [(3, .int (nI 1)), (4, .int (nI k)), (0, .ref h), (1, .int (nI i)), (2, .ref x1)]) rfl (by decide) rfl dL_isRow_54 ?_
        refine j_iinc C (v := (nI (k + 1))) (lo1 := [(4, .int (nI (k + 1))), (3, .int (nI 1)), (0, .ref h), (1, .int (nI i)), (2, .ref x1)]) 1 rfl (fx_inc k 1) (by decide) rfl dL_isRow_55 ?_
        refine j_ws (ws1 := [(h, .inr (11, [.ref ty, .int tn, .ref aw, .int (nI wn), .ref (ad 4), .ref (ad 5), .ref (ad 6), .int (nI 0), .ref (ad 8), .int (nI 0), .ref dr, .ref se, .ref (ad 12), .ref (ad 13), .ref (ad 14), .ref (ad 15), .ref (ad 16), .ref (ad 17)])), (aw, .inl (cy 4, 24, .inr (.inr (.inr (.inr g))))), (a1, .inr (9, [.ref b1, .int (nI xs.length)])), (b1, .inl (cy 0, 60, .inl f1)), (x1, .inl (cy 1, xs.length, .inl xf))]) [1, 2, 3, 4, 0] rfl (by decide) ?_
        refine j_goto C (tgt := 19) (by decide) dL_isRow_58 ?_
        refine j_lo (lo1 := [(3, .int (nI 1)), (4, .int (nI (k + 1))), (0, .ref h), (1, .int (nI i)), (2, .ref x1)]) [1, 0, 2, 3, 4] rfl ?_
        exact ih (k + 1) (by omega) (by omega)
  exact lp (xs.length + 1) 0 (by omega) (by omega)
