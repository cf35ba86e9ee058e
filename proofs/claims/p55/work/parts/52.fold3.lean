theorem fx_nm1 {n : Nat} (h : n < 2 ^ 31) : nI n = -1 ↔ False := by
  refine ⟨fun h1 => ?_, False.elim⟩
  have h2 := congrArg Int32.toInt h1
  rw [nI_toInt h] at h2
  have h3 : (-1 : Int32).toInt = -1 := by decide
  rw [h3] at h2
  omega
theorem hdV_X7_addPart : yX7_addPart.cls = RX7 ∧ yX7_addPart.cls ≠ "java/lang/invoke/MethodHandle" ∧ yX7_addPart.cls ≠ "java/lang/invoke/VarHandle" ∧ (parseMethodDescriptor yX7_addPart.desc).map (fun d => d.parameters.length) = some 3 := by decide +kernel
theorem hdV_X7_addPartInverse : yX7_addPartInverse.cls = RX7 ∧ yX7_addPartInverse.cls ≠ "java/lang/invoke/MethodHandle" ∧ yX7_addPartInverse.cls ≠ "java/lang/invoke/VarHandle" ∧ (parseMethodDescriptor yX7_addPartInverse.desc).map (fun d => d.parameters.length) = some 3 := by decide +kernel
set_option maxHeartbeats 4000000 in
set_option maxRecDepth 100000 in
/-- setConjugator, backward -/
theorem c_X9_setConjB {l : Launch} {G : va_G} {cy : Nat → ClassId} {h : Nat} {r rl a1 b1 a2 b2 e1 e2 core per t : Nat} {rz : Int32} {xs ys : List Nat} {rf f1 f2 : Nat → Int32} (h16 : L6 xs) (hf1 : Hd f1 xs) (hx60 : xs.length ≤ 60) (h26 : L6 ys) (hf2 : Hd f2 ys) (hy60 : ys.length ≤ 60) (he1 : IsE xs e1) (he2 : IsE ys e2) (hc1 : xs.length = 2 * e1 + core) (hc2 : ys.length = 2 * e2 + core) (hp : (core = 0 ∧ per = 0) ∨ IsP xs e1 core per) (htp : t ≤ per) (hpc : per ≤ core)  : Kv l yX9_setConjugator wsX9_setConjugator G cy [.ref h, .ref r, .ref a1, .ref a2, .int (nI t), .int (nI 0)] [(r, .inr (9, [.ref rl, .int rz])), (rl, .inl (cy 0, 3600, .inl rf)), (a1, .inr (9, [.ref b1, .int (nI xs.length)])), (b1, .inl (cy 0, 60, .inl f1)), (a2, .inr (9, [.ref b2, .int (nI ys.length)])), (b2, .inl (cy 0, 60, .inl f2))] (fun q : Nat → Int32 => Hd q (red (seg (gd ys) 0 e2 ++ iv (seg (gd xs) e1 t) ++ iv (seg (gd xs) 0 e1)))) (fun q => [(r, .inr (9, [.ref rl, .int (nI ((red (seg (gd ys) 0 e2 ++ iv (seg (gd xs) e1 t) ++ iv (seg (gd xs) 0 e1))).length))])), (rl, .inl (cy 0, 3600, .inl q)), (a1, .inr (9, [.ref b1, .int (nI xs.length)])), (b1, .inl (cy 0, 60, .inl f1)), (a2, .inr (9, [.ref b2, .int (nI ys.length)])), (b2, .inl (cy 0, 60, .inl f2))]) 2 0 0 46 := by
  refine Kv_of (cc := cX9_setConjugator) (nL := 7) (by decide) rfl (Nat.le_of_ble_eq_true rfl) ?_
  intro p e s m args below meth c A C hnm
  refine j_lo (lo1 := [(0, .ref h), (1, .ref r), (2, .ref a1), (3, .ref a2), (4, .int (nI t)), (5, .int (nI 0))]) [0, 1, 2, 3, 4, 5] rfl ?_
  refine j_aload_n C rfl 2 rfl dX9_setConjugator_0 ?_
  refine j_resi (k1 := 0) (n1 := 0) C (j_runV C (c_X7_coreStart (by decide : 60 < 2 ^ 20) he1 h16 hf1 hx60) gX9_setConjugator_X7_coreStart rfl hdV_X7_coreStart ⟨Nat.le_of_ble_eq_true rfl, Nat.le_of_ble_eq_true rfl⟩ ⟨Nat.le_of_ble_eq_true rfl, Nat.le_of_ble_eq_true rfl⟩ 2 rfl rfl rfl [2, 3] rfl (by decide) rfl (Nat.le_of_ble_eq_true rfl) dX9_setConjugator_1) (wr := [(r, .inr (9, [.ref rl, .int rz])), (rl, .inl (cy 0, 3600, .inl rf)), (a2, .inr (9, [.ref b2, .int (nI ys.length)])), (b2, .inl (cy 0, 60, .inl f2))]) [0, 1, 4, 5] rfl (by decide) (by decide) (Nat.le_refl _) (Nat.le_refl _) (fun v u hv => ?_)
  subst hv
  refine j_istore C (lo1 := [(6, .int (nI e1)), (0, .ref h), (1, .ref r), (2, .ref a1), (3, .ref a2), (4, .int (nI t)), (5, .int (nI 0))]) (by decide) rfl dX9_setConjugator_4 ?_
  refine j_aload_n C rfl 2 rfl dX9_setConjugator_6 ?_
  refine j_resv (k1 := 0) (n1 := 0) C (j_runV C (c_X7_clear) gX9_setConjugator_X7_clear rfl hdV_X7_clear ⟨Nat.le_of_ble_eq_true rfl, Nat.le_of_ble_eq_true rfl⟩ ⟨Nat.le_of_ble_eq_true rfl, Nat.le_of_ble_eq_true rfl⟩ 0 rfl rfl rfl [0] rfl (by decide) rfl (Nat.le_of_ble_eq_true rfl) dX9_setConjugator_7) (wr := [(rl, .inl (cy 0, 3600, .inl rf)), (a2, .inr (9, [.ref b2, .int (nI ys.length)])), (b2, .inl (cy 0, 60, .inl f2)), (a1, .inr (9, [.ref b1, .int (nI xs.length)])), (b1, .inl (cy 0, 60, .inl f1))]) [1, 2, 3, 4, 5] rfl (by decide) (by decide) (Nat.le_refl _) (Nat.le_refl _) (fun u9 _ => ?_)
  refine j_aload_n C rfl 2 rfl dX9_setConjugator_10 ?_
  refine j_aload_n C rfl 4 rfl dX9_setConjugator_11 ?_
  refine j_iconst C (v := (nI 0)) (by decide +kernel) dX9_setConjugator_12 ?_
  refine j_aload_n C rfl 4 rfl dX9_setConjugator_13 ?_
  refine j_resi (k1 := 0) (n1 := 0) C (j_runV C (c_X7_coreStart (by decide : 60 < 2 ^ 20) he2 h26 hf2 hy60) gX9_setConjugator_X7_coreStart rfl hdV_X7_coreStart ⟨Nat.le_of_ble_eq_true rfl, Nat.le_of_ble_eq_true rfl⟩ ⟨Nat.le_of_ble_eq_true rfl, Nat.le_of_ble_eq_true rfl⟩ 1 rfl rfl rfl [1, 2] rfl (by decide) rfl (Nat.le_of_ble_eq_true rfl) dX9_setConjugator_14) (wr := [(rl, .inl (cy 0, 3600, .inl rf)), (a1, .inr (9, [.ref b1, .int (nI xs.length)])), (b1, .inl (cy 0, 60, .inl f1)), (r, .inr (9, [.ref rl, .int (nI (([] : List Nat).length))]))]) [0, 3, 4, 5] rfl (by decide) (by decide) (Nat.le_refl _) (Nat.le_refl _) (fun v u hv => ?_)
  subst hv
  refine j_resv (k1 := 0) (n1 := 0) C (j_runV C (c_X7_addPart (xs := []) (ys := ys) (a := 0) (b := e2) (by decide : 3600 < 2 ^ 20) (by decide : 60 < 2 ^ 20) (by show 0 + ys.length ≤ 3600; omega) (by omega) L6_nil h26 (Hd_nil rf) hf2 hy60) gX9_setConjugator_X7_addPart rfl hdV_X7_addPart ⟨Nat.le_of_ble_eq_true rfl, Nat.le_of_ble_eq_true rfl⟩ ⟨Nat.le_of_ble_eq_true rfl, Nat.le_of_ble_eq_true rfl⟩ 3 rfl rfl rfl [3, 0, 4, 5] rfl (by decide) rfl (Nat.le_of_ble_eq_true rfl) dX9_setConjugator_17) (wr := [(a1, .inr (9, [.ref b1, .int (nI xs.length)])), (b1, .inl (cy 0, 60, .inl f1))]) [1, 2] rfl (by decide) (by decide) (Nat.le_refl _) (Nat.le_refl _) (fun q1 hq1 => ?_)
  refine j_ws (ws1 := [(r, .inr (9, [.ref rl, .int (nI ((act [] (seg (gd ys) 0 (e2 - 0))).length))])), (rl, .inl (cy 0, 3600, .inl q1)), (a1, .inr (9, [.ref b1, .int (nI xs.length)])), (b1, .inl (cy 0, 60, .inl f1)), (a2, .inr (9, [.ref b2, .int (nI ys.length)])), (b2, .inl (cy 0, 60, .inl f2))]) [2, 3, 0, 1, 4, 5] rfl (by decide) ?_
  rw [Nat.sub_zero] at hq1 ⊢
  have hl1 := act_len (seg (gd ys) 0 e2) []
  rw [List.length_nil, seg_len] at hl1
  have l61 : L6 (act [] (seg (gd ys) 0 e2)) := L6_act _ L6_nil (L6_seg h26 (by omega))
  refine j_iload C 6 rfl dX9_setConjugator_20 ?_
  refine j_if_eq C (P := True) (by decide) (tgt := 45) (by decide) dX9_setConjugator_22 (fun ht => ?_) (fun hq => absurd hq (fun z => z trivial))
  refine j_aload_n C rfl 2 rfl dX9_setConjugator_45 ?_
  refine j_aload_n C rfl 3 rfl dX9_setConjugator_46 ?_
  refine j_iload C 0 rfl dX9_setConjugator_47 ?_
  refine j_iload C 0 rfl dX9_setConjugator_49 ?_
  refine j_iload C 5 rfl dX9_setConjugator_51 ?_
  refine j_iadd C (v := (nI (e1 + t))) (fx_add e1 t) dX9_setConjugator_53 ?_
  refine j_resv (k1 := 0) (n1 := 0) C (j_runV C (c_X7_addPartInverse (xs := act [] (seg (gd ys) 0 e2)) (ys := xs) (a := e1) (b := e1 + t) (by decide : 3600 < 2 ^ 20) (by decide : 60 < 2 ^ 20) (by omega) (by omega) l61 h16 hq1 hf1 hx60) gX9_setConjugator_X7_addPartInverse rfl hdV_X7_addPartInverse ⟨Nat.le_of_ble_eq_true rfl, Nat.le_of_ble_eq_true rfl⟩ ⟨Nat.le_of_ble_eq_true rfl, Nat.le_of_ble_eq_true rfl⟩ 0 rfl rfl rfl [0, 1, 2, 3] rfl (by decide) rfl (Nat.le_of_ble_eq_true rfl) dX9_setConjugator_54) (wr := [(a2, .inr (9, [.ref b2, .int (nI ys.length)])), (b2, .inl (cy 0, 60, .inl f2))]) [4, 5] rfl (by decide) (by decide) (Nat.le_refl _) (Nat.le_refl _) (fun q2 hq2 => ?_)
  refine j_ws (ws1 := [(r, .inr (9, [.ref rl, .int (nI ((act (act [] (seg (gd ys) 0 e2)) (iv (seg (gd xs) e1 (e1 + t - e1)))).length))])), (rl, .inl (cy 0, 3600, .inl q2)), (a1, .inr (9, [.ref b1, .int (nI xs.length)])), (b1, .inl (cy 0, 60, .inl f1)), (a2, .inr (9, [.ref b2, .int (nI ys.length)])), (b2, .inl (cy 0, 60, .inl f2))]) [2, 3, 4, 5, 0, 1] rfl (by decide) ?_
  rw [show e1 + t - e1 = t by omega] at hq2 ⊢
  have hl2 := act_len (iv (seg (gd xs) e1 t)) (act [] (seg (gd ys) 0 e2))
  rw [iv_len, seg_len] at hl2
  have l62 : L6 (act (act [] (seg (gd ys) 0 e2)) (iv (seg (gd xs) e1 t))) := L6_act _ l61 (L6_iv (L6_seg h16 (by omega)))
  refine j_aload_n C rfl 2 rfl dX9_setConjugator_57 ?_
  refine j_aload_n C rfl 3 rfl dX9_setConjugator_58 ?_
  refine j_iconst C (v := (nI 0)) (by decide +kernel) dX9_setConjugator_59 ?_
  refine j_iload C 0 rfl dX9_setConjugator_60 ?_
  refine j_resv (k1 := 0) (n1 := 0) C (j_runV C (c_X7_addPartInverse (xs := act (act [] (seg (gd ys) 0 e2)) (iv (seg (gd xs) e1 t))) (ys := xs) (a := 0) (b := e1) (by decide : 3600 < 2 ^ 20) (by decide : 60 < 2 ^ 20) (by omega) (by omega) l62 h16 hq2 hf1 hx60) gX9_setConjugator_X7_addPartInverse rfl hdV_X7_addPartInverse ⟨Nat.le_of_ble_eq_true rfl, Nat.le_of_ble_eq_true rfl⟩ ⟨Nat.le_of_ble_eq_true rfl, Nat.le_of_ble_eq_true rfl⟩ 0 rfl rfl rfl [0, 1, 2, 3] rfl (by decide) rfl (Nat.le_of_ble_eq_true rfl) dX9_setConjugator_62) (wr := [(a2, .inr (9, [.ref b2, .int (nI ys.length)])), (b2, .inl (cy 0, 60, .inl f2))]) [4, 5] rfl (by decide) (by decide) (Nat.le_refl _) (Nat.le_refl _) (fun q3 hq3 => ?_)
  refine j_ws (ws1 := [(r, .inr (9, [.ref rl, .int (nI ((act (act (act [] (seg (gd ys) 0 e2)) (iv (seg (gd xs) e1 t))) (iv (seg (gd xs) 0 (e1 - 0)))).length))])), (rl, .inl (cy 0, 3600, .inl q3)), (a1, .inr (9, [.ref b1, .int (nI xs.length)])), (b1, .inl (cy 0, 60, .inl f1)), (a2, .inr (9, [.ref b2, .int (nI ys.length)])), (b2, .inl (cy 0, 60, .inl f2))]) [2, 3, 4, 5, 0, 1] rfl (by decide) ?_
  have hfin : act (act (act [] (seg (gd ys) 0 e2)) (iv (seg (gd xs) e1 t))) (iv (seg (gd xs) 0 (e1 - 0))) = red (seg (gd ys) 0 e2 ++ iv (seg (gd xs) e1 t) ++ iv (seg (gd xs) 0 e1)) := by rw [Nat.sub_zero, red, act_app, act_app]
  rw [hfin] at hq3 ⊢
  exact j_vret C (q3) (hq3) [0, 1, 2, 3, 4, 5] rfl (by decide) (Nat.le_of_ble_eq_true rfl) (Nat.le_of_ble_eq_true rfl) dX9_setConjugator_65
set_option maxHeartbeats 4000000 in
set_option maxRecDepth 100000 in
/-- setConjugator, forward -/
theorem c_X9_setConjF {l : Launch} {G : va_G} {cy : Nat → ClassId} {h : Nat} {r rl a1 b1 a2 b2 e1 e2 core per t : Nat} {rz : Int32} {xs ys : List Nat} {rf f1 f2 : Nat → Int32} (h16 : L6 xs) (hf1 : Hd f1 xs) (hx60 : xs.length ≤ 60) (h26 : L6 ys) (hf2 : Hd f2 ys) (hy60 : ys.length ≤ 60) (he1 : IsE xs e1) (he2 : IsE ys e2) (hc1 : xs.length = 2 * e1 + core) (hc2 : ys.length = 2 * e2 + core) (hp : (core = 0 ∧ per = 0) ∨ IsP xs e1 core per) (htp : t ≤ per) (hpc : per ≤ core)  : Kv l yX9_setConjugator wsX9_setConjugator G cy [.ref h, .ref r, .ref a1, .ref a2, .int (nI t), .int (nI 1)] [(r, .inr (9, [.ref rl, .int rz])), (rl, .inl (cy 0, 3600, .inl rf)), (a1, .inr (9, [.ref b1, .int (nI xs.length)])), (b1, .inl (cy 0, 60, .inl f1)), (a2, .inr (9, [.ref b2, .int (nI ys.length)])), (b2, .inl (cy 0, 60, .inl f2))] (fun q : Nat → Int32 => Hd q (red (seg (gd ys) 0 e2 ++ seg (gd xs) (e1 + t) (per - t) ++ iv (seg (gd xs) 0 e1)))) (fun q => [(r, .inr (9, [.ref rl, .int (nI ((red (seg (gd ys) 0 e2 ++ seg (gd xs) (e1 + t) (per - t) ++ iv (seg (gd xs) 0 e1))).length))])), (rl, .inl (cy 0, 3600, .inl q)), (a1, .inr (9, [.ref b1, .int (nI xs.length)])), (b1, .inl (cy 0, 60, .inl f1)), (a2, .inr (9, [.ref b2, .int (nI ys.length)])), (b2, .inl (cy 0, 60, .inl f2))]) 2 0 0 47 := by
  refine Kv_of (cc := cX9_setConjugator) (nL := 7) (by decide) rfl (Nat.le_of_ble_eq_true rfl) ?_
  intro p e s m args below meth c A C hnm
  refine j_lo (lo1 := [(0, .ref h), (1, .ref r), (2, .ref a1), (3, .ref a2), (4, .int (nI t)), (5, .int (nI 1))]) [0, 1, 2, 3, 4, 5] rfl ?_
  refine j_aload_n C rfl 2 rfl dX9_setConjugator_0 ?_
  refine j_resi (k1 := 0) (n1 := 0) C (j_runV C (c_X7_coreStart (by decide : 60 < 2 ^ 20) he1 h16 hf1 hx60) gX9_setConjugator_X7_coreStart rfl hdV_X7_coreStart ⟨Nat.le_of_ble_eq_true rfl, Nat.le_of_ble_eq_true rfl⟩ ⟨Nat.le_of_ble_eq_true rfl, Nat.le_of_ble_eq_true rfl⟩ 2 rfl rfl rfl [2, 3] rfl (by decide) rfl (Nat.le_of_ble_eq_true rfl) dX9_setConjugator_1) (wr := [(r, .inr (9, [.ref rl, .int rz])), (rl, .inl (cy 0, 3600, .inl rf)), (a2, .inr (9, [.ref b2, .int (nI ys.length)])), (b2, .inl (cy 0, 60, .inl f2))]) [0, 1, 4, 5] rfl (by decide) (by decide) (Nat.le_refl _) (Nat.le_refl _) (fun v u hv => ?_)
  subst hv
  refine j_istore C (lo1 := [(6, .int (nI e1)), (0, .ref h), (1, .ref r), (2, .ref a1), (3, .ref a2), (4, .int (nI t)), (5, .int (nI 1))]) (by decide) rfl dX9_setConjugator_4 ?_
  refine j_aload_n C rfl 2 rfl dX9_setConjugator_6 ?_
  refine j_resv (k1 := 0) (n1 := 0) C (j_runV C (c_X7_clear) gX9_setConjugator_X7_clear rfl hdV_X7_clear ⟨Nat.le_of_ble_eq_true rfl, Nat.le_of_ble_eq_true rfl⟩ ⟨Nat.le_of_ble_eq_true rfl, Nat.le_of_ble_eq_true rfl⟩ 0 rfl rfl rfl [0] rfl (by decide) rfl (Nat.le_of_ble_eq_true rfl) dX9_setConjugator_7) (wr := [(rl, .inl (cy 0, 3600, .inl rf)), (a2, .inr (9, [.ref b2, .int (nI ys.length)])), (b2, .inl (cy 0, 60, .inl f2)), (a1, .inr (9, [.ref b1, .int (nI xs.length)])), (b1, .inl (cy 0, 60, .inl f1))]) [1, 2, 3, 4, 5] rfl (by decide) (by decide) (Nat.le_refl _) (Nat.le_refl _) (fun u9 _ => ?_)
  refine j_aload_n C rfl 2 rfl dX9_setConjugator_10 ?_
  refine j_aload_n C rfl 4 rfl dX9_setConjugator_11 ?_
  refine j_iconst C (v := (nI 0)) (by decide +kernel) dX9_setConjugator_12 ?_
  refine j_aload_n C rfl 4 rfl dX9_setConjugator_13 ?_
  refine j_resi (k1 := 0) (n1 := 0) C (j_runV C (c_X7_coreStart (by decide : 60 < 2 ^ 20) he2 h26 hf2 hy60) gX9_setConjugator_X7_coreStart rfl hdV_X7_coreStart ⟨Nat.le_of_ble_eq_true rfl, Nat.le_of_ble_eq_true rfl⟩ ⟨Nat.le_of_ble_eq_true rfl, Nat.le_of_ble_eq_true rfl⟩ 1 rfl rfl rfl [1, 2] rfl (by decide) rfl (Nat.le_of_ble_eq_true rfl) dX9_setConjugator_14) (wr := [(rl, .inl (cy 0, 3600, .inl rf)), (a1, .inr (9, [.ref b1, .int (nI xs.length)])), (b1, .inl (cy 0, 60, .inl f1)), (r, .inr (9, [.ref rl, .int (nI (([] : List Nat).length))]))]) [0, 3, 4, 5] rfl (by decide) (by decide) (Nat.le_refl _) (Nat.le_refl _) (fun v u hv => ?_)
  subst hv
  refine j_resv (k1 := 0) (n1 := 0) C (j_runV C (c_X7_addPart (xs := []) (ys := ys) (a := 0) (b := e2) (by decide : 3600 < 2 ^ 20) (by decide : 60 < 2 ^ 20) (by show 0 + ys.length ≤ 3600; omega) (by omega) L6_nil h26 (Hd_nil rf) hf2 hy60) gX9_setConjugator_X7_addPart rfl hdV_X7_addPart ⟨Nat.le_of_ble_eq_true rfl, Nat.le_of_ble_eq_true rfl⟩ ⟨Nat.le_of_ble_eq_true rfl, Nat.le_of_ble_eq_true rfl⟩ 3 rfl rfl rfl [3, 0, 4, 5] rfl (by decide) rfl (Nat.le_of_ble_eq_true rfl) dX9_setConjugator_17) (wr := [(a1, .inr (9, [.ref b1, .int (nI xs.length)])), (b1, .inl (cy 0, 60, .inl f1))]) [1, 2] rfl (by decide) (by decide) (Nat.le_refl _) (Nat.le_refl _) (fun q1 hq1 => ?_)
  refine j_ws (ws1 := [(r, .inr (9, [.ref rl, .int (nI ((act [] (seg (gd ys) 0 (e2 - 0))).length))])), (rl, .inl (cy 0, 3600, .inl q1)), (a1, .inr (9, [.ref b1, .int (nI xs.length)])), (b1, .inl (cy 0, 60, .inl f1)), (a2, .inr (9, [.ref b2, .int (nI ys.length)])), (b2, .inl (cy 0, 60, .inl f2))]) [2, 3, 0, 1, 4, 5] rfl (by decide) ?_
  rw [Nat.sub_zero] at hq1 ⊢
  have hl1 := act_len (seg (gd ys) 0 e2) []
  rw [List.length_nil, seg_len] at hl1
  have l61 : L6 (act [] (seg (gd ys) 0 e2)) := L6_act _ L6_nil (L6_seg h26 (by omega))
  refine j_iload C 6 rfl dX9_setConjugator_20 ?_
  refine j_if_eq C (P := False) (by decide) (tgt := 45) (by decide) dX9_setConjugator_22 (fun ht => absurd ht (id)) (fun hq => ?_)
  refine j_aload_n C rfl 2 rfl dX9_setConjugator_25 ?_
  refine j_aload_n C rfl 3 rfl dX9_setConjugator_26 ?_
  refine j_iload C 0 rfl dX9_setConjugator_27 ?_
  refine j_iload C 5 rfl dX9_setConjugator_29 ?_
  refine j_iadd C (v := (nI (e1 + t))) (fx_add e1 t) dX9_setConjugator_31 ?_
  refine j_iload C 0 rfl dX9_setConjugator_32 ?_
  refine j_aload_n C rfl 3 rfl dX9_setConjugator_34 ?_
  refine j_resi (k1 := 0) (n1 := 0) C (j_runV C (c_X7_corePeriod (by decide : 60 < 2 ^ 20) he1 hc1 hp h16 hf1 hx60) gX9_setConjugator_X7_corePeriod rfl hdV_X7_corePeriod ⟨Nat.le_of_ble_eq_true rfl, Nat.le_of_ble_eq_true rfl⟩ ⟨Nat.le_of_ble_eq_true rfl, Nat.le_of_ble_eq_true rfl⟩ 2 rfl rfl rfl [2, 3] rfl (by decide) rfl (Nat.le_of_ble_eq_true rfl) dX9_setConjugator_35) (wr := [(r, .inr (9, [.ref rl, .int (nI ((act [] (seg (gd ys) 0 e2)).length))])), (rl, .inl (cy 0, 3600, .inl q1)), (a2, .inr (9, [.ref b2, .int (nI ys.length)])), (b2, .inl (cy 0, 60, .inl f2))]) [0, 1, 4, 5] rfl (by decide) (by decide) (Nat.le_refl _) (Nat.le_refl _) (fun v u hv => ?_)
  subst hv
  refine j_iadd C (v := (nI (e1 + per))) (fx_add e1 per) dX9_setConjugator_38 ?_
  refine j_resv (k1 := 0) (n1 := 0) C (j_runV C (c_X7_addPart (xs := act [] (seg (gd ys) 0 e2)) (ys := xs) (a := e1 + t) (b := e1 + per) (by decide : 3600 < 2 ^ 20) (by decide : 60 < 2 ^ 20) (by omega) (by omega) l61 h16 hq1 hf1 hx60) gX9_setConjugator_X7_addPart rfl hdV_X7_addPart ⟨Nat.le_of_ble_eq_true rfl, Nat.le_of_ble_eq_true rfl⟩ ⟨Nat.le_of_ble_eq_true rfl, Nat.le_of_ble_eq_true rfl⟩ 0 rfl rfl rfl [0, 1, 4, 5] rfl (by decide) rfl (Nat.le_of_ble_eq_true rfl) dX9_setConjugator_39) (wr := [(a2, .inr (9, [.ref b2, .int (nI ys.length)])), (b2, .inl (cy 0, 60, .inl f2))]) [2, 3] rfl (by decide) (by decide) (Nat.le_refl _) (Nat.le_refl _) (fun q2 hq2 => ?_)
  refine j_ws (ws1 := [(r, .inr (9, [.ref rl, .int (nI ((act (act [] (seg (gd ys) 0 e2)) (seg (gd xs) (e1 + t) (e1 + per - (e1 + t)))).length))])), (rl, .inl (cy 0, 3600, .inl q2)), (a1, .inr (9, [.ref b1, .int (nI xs.length)])), (b1, .inl (cy 0, 60, .inl f1)), (a2, .inr (9, [.ref b2, .int (nI ys.length)])), (b2, .inl (cy 0, 60, .inl f2))]) [2, 3, 4, 5, 0, 1] rfl (by decide) ?_
  rw [show e1 + per - (e1 + t) = per - t by omega] at hq2 ⊢
  have hl2 := act_len (seg (gd xs) (e1 + t) (per - t)) (act [] (seg (gd ys) 0 e2))
  rw [seg_len] at hl2
  have l62 : L6 (act (act [] (seg (gd ys) 0 e2)) (seg (gd xs) (e1 + t) (per - t))) := L6_act _ l61 (L6_seg h16 (by omega))
  refine j_goto C (tgt := 57) (by decide) dX9_setConjugator_42 ?_
  refine j_aload_n C rfl 2 rfl dX9_setConjugator_57 ?_
  refine j_aload_n C rfl 3 rfl dX9_setConjugator_58 ?_
  refine j_iconst C (v := (nI 0)) (by decide +kernel) dX9_setConjugator_59 ?_
  refine j_iload C 0 rfl dX9_setConjugator_60 ?_
  refine j_resv (k1 := 0) (n1 := 0) C (j_runV C (c_X7_addPartInverse (xs := act (act [] (seg (gd ys) 0 e2)) (seg (gd xs) (e1 + t) (per - t))) (ys := xs) (a := 0) (b := e1) (by decide : 3600 < 2 ^ 20) (by decide : 60 < 2 ^ 20) (by omega) (by omega) l62 h16 hq2 hf1 hx60) gX9_setConjugator_X7_addPartInverse rfl hdV_X7_addPartInverse ⟨Nat.le_of_ble_eq_true rfl, Nat.le_of_ble_eq_true rfl⟩ ⟨Nat.le_of_ble_eq_true rfl, Nat.le_of_ble_eq_true rfl⟩ 0 rfl rfl rfl [0, 1, 2, 3] rfl (by decide) rfl (Nat.le_of_ble_eq_true rfl) dX9_setConjugator_62) (wr := [(a2, .inr (9, [.ref b2, .int (nI ys.length)])), (b2, .inl (cy 0, 60, .inl f2))]) [4, 5] rfl (by decide) (by decide) (Nat.le_refl _) (Nat.le_refl _) (fun q3 hq3 => ?_)
  refine j_ws (ws1 := [(r, .inr (9, [.ref rl, .int (nI ((act (act (act [] (seg (gd ys) 0 e2)) (seg (gd xs) (e1 + t) (per - t))) (iv (seg (gd xs) 0 (e1 - 0)))).length))])), (rl, .inl (cy 0, 3600, .inl q3)), (a1, .inr (9, [.ref b1, .int (nI xs.length)])), (b1, .inl (cy 0, 60, .inl f1)), (a2, .inr (9, [.ref b2, .int (nI ys.length)])), (b2, .inl (cy 0, 60, .inl f2))]) [2, 3, 4, 5, 0, 1] rfl (by decide) ?_
  have hfin : act (act (act [] (seg (gd ys) 0 e2)) (seg (gd xs) (e1 + t) (per - t))) (iv (seg (gd xs) 0 (e1 - 0))) = red (seg (gd ys) 0 e2 ++ seg (gd xs) (e1 + t) (per - t) ++ iv (seg (gd xs) 0 e1)) := by rw [Nat.sub_zero, red, act_app, act_app]
  rw [hfin] at hq3 ⊢
  exact j_vret C (q3) (hq3) [0, 1, 2, 3, 4, 5] rfl (by decide) (Nat.le_of_ble_eq_true rfl) (Nat.le_of_ble_eq_true rfl) dX9_setConjugator_65
set_option maxRecDepth 100000 in
theorem fin_X9_conjugator_RX9 : ∀ w ∈ u_ws RX9 TX9 18, w ∈ wsX9_conjugator := by decide +kernel
theorem hdV_X7_turnOfCore : yX7_turnOfCore.cls = RX7 ∧ yX7_turnOfCore.cls ≠ "java/lang/invoke/MethodHandle" ∧ yX7_turnOfCore.cls ≠ "java/lang/invoke/VarHandle" ∧ (parseMethodDescriptor yX7_turnOfCore.desc).map (fun d => d.parameters.length) = some 1 := by decide +kernel
theorem hdV_X9_setConjugator : yX9_setConjugator.cls = RX9 ∧ yX9_setConjugator.cls ≠ "java/lang/invoke/MethodHandle" ∧ yX9_setConjugator.cls ≠ "java/lang/invoke/VarHandle" ∧ (parseMethodDescriptor yX9_setConjugator.desc).map (fun d => d.parameters.length) = some 5 := by decide +kernel
set_option maxHeartbeats 4000000 in
set_option maxRecDepth 100000 in
/-- conjugator -/
theorem c_X9_conjugator {l : Launch} {G : va_G} {cy : Nat → ClassId} {h ty aw dr se : Nat} {ad : Nat → Nat} {tn : Int32} {wn : Nat} {g : Nat → Option Nat} {a1 b1 i : Nat} {xs : List Nat} {f1 : Nat → Int32} {a2 b2 j : Nat} {ys : List Nat} {f2 : Nat → Int32} {dl sl d db e1 e2 core per t : Nat} {dz sz dn : Int32} {df sf ef : Nat → Int32} (hw : wn ≤ 24) (hi : i < wn) (hg1 : g i = some a1) (h16 : L6 xs) (hf1 : Hd f1 xs) (hx60 : xs.length ≤ 60) (hj : j < wn) (hg2 : g j = some a2) (h26 : L6 ys) (hf2 : Hd f2 ys) (hy60 : ys.length ≤ 60) (hw4 : wn < 24) (hgd : g wn = some d) (he1 : IsE xs e1) (he2 : IsE ys e2) (hc1 : xs.length = 2 * e1 + core) (hc2 : ys.length = 2 * e2 + core) (hT : (core = 0 ∧ t = 0) ∨ IsT ys e2 xs e1 core t) (hp : (core = 0 ∧ per = 0) ∨ IsP xs e1 core per) (htp : t ≤ per) (hpc : per ≤ core)  : Ki l yX9_conjugator wsX9_conjugator G cy [.ref h, .int (nI i), .int (nI j)] [(h, .inr (11, [.ref ty, .int tn, .ref aw, .int (nI wn), .ref (ad 4), .ref (ad 5), .ref (ad 6), .int (nI 0), .ref (ad 8), .int (nI 0), .ref dr, .ref se, .ref (ad 12), .ref (ad 13), .ref (ad 14), .ref (ad 15), .ref (ad 16), .ref (ad 17)])), (aw, .inl (cy 4, 24, .inr (.inr (.inr (.inr g))))), (dr, .inr (9, [.ref dl, .int dz])), (dl, .inl (cy 0, 3600, .inl df)), (se, .inr (9, [.ref sl, .int sz])), (sl, .inl (cy 0, 3600, .inl sf)), (a1, .inr (9, [.ref b1, .int (nI xs.length)])), (b1, .inl (cy 0, 60, .inl f1)), (a2, .inr (9, [.ref b2, .int (nI ys.length)])), (b2, .inl (cy 0, 60, .inl f2)), (d, .inr (9, [.ref db, .int dn])), (db, .inl (cy 0, 60, .inl ef))] (fun (v : Int32) (u : (Nat → Int32) × (Nat → Int32) × (Nat → Int32)) => v = nI wn ∧ Hd u.1 (red (seg (gd ys) 0 e2 ++ iv (seg (gd xs) e1 t) ++ iv (seg (gd xs) 0 e1))) ∧ Hd u.2.1 (red (seg (gd ys) 0 e2 ++ seg (gd xs) (e1 + t) (per - t) ++ iv (seg (gd xs) 0 e1))) ∧ Hd u.2.2 (frst (red (seg (gd ys) 0 e2 ++ iv (seg (gd xs) e1 t) ++ iv (seg (gd xs) 0 e1))) (red (seg (gd ys) 0 e2 ++ seg (gd xs) (e1 + t) (per - t) ++ iv (seg (gd xs) 0 e1))))) (fun u => [(h, .inr (11, [.ref ty, .int tn, .ref aw, .int (nI (wn + 1)), .ref (ad 4), .ref (ad 5), .ref (ad 6), .int (nI 0), .ref (ad 8), .int (nI 0), .ref dr, .ref se, .ref (ad 12), .ref (ad 13), .ref (ad 14), .ref (ad 15), .ref (ad 16), .ref (ad 17)])), (aw, .inl (cy 4, 24, .inr (.inr (.inr (.inr g))))), (dr, .inr (9, [.ref dl, .int (nI ((red (seg (gd ys) 0 e2 ++ iv (seg (gd xs) e1 t) ++ iv (seg (gd xs) 0 e1))).length))])), (dl, .inl (cy 0, 3600, .inl u.1)), (se, .inr (9, [.ref sl, .int (nI ((red (seg (gd ys) 0 e2 ++ seg (gd xs) (e1 + t) (per - t) ++ iv (seg (gd xs) 0 e1))).length))])), (sl, .inl (cy 0, 3600, .inl u.2.1)), (a1, .inr (9, [.ref b1, .int (nI xs.length)])), (b1, .inl (cy 0, 60, .inl f1)), (a2, .inr (9, [.ref b2, .int (nI ys.length)])), (b2, .inl (cy 0, 60, .inl f2)), (d, .inr (9, [.ref db, .int (nI ((frst (red (seg (gd ys) 0 e2 ++ iv (seg (gd xs) e1 t) ++ iv (seg (gd xs) 0 e1))) (red (seg (gd ys) 0 e2 ++ seg (gd xs) (e1 + t) (per - t) ++ iv (seg (gd xs) 0 e1)))).length))])), (db, .inl (cy 0, 60, .inl u.2.2))]) 3 0 0 73 := by
  refine Ki_of (cc := cX9_conjugator) (nL := 6) (by decide) rfl (Nat.le_of_ble_eq_true rfl) ?_
  intro p e s m args below meth c A C hnm
  refine j_lo (lo1 := [(0, .ref h), (1, .int (nI i)), (2, .int (nI j))]) [0, 1, 2] rfl ?_
  refine j_aload_n C rfl 0 rfl dX9_conjugator_0 ?_
  refine j_iload_n C rfl 1 rfl dX9_conjugator_1 ?_
  refine j_resr (k1 := 0) (n1 := 0) C (j_runV C (c_X9_wordAt (i := i) (a1 := a1) (by omega) (by omega) (by assumption)) gX9_conjugator_X9_wordAt rfl hdV_X9_wordAt ⟨Nat.le_of_ble_eq_true rfl, Nat.le_of_ble_eq_true rfl⟩ ⟨Nat.le_of_ble_eq_true rfl, Nat.le_of_ble_eq_true rfl⟩ 0 rfl rfl rfl [0, 1] rfl (by decide) rfl (Nat.le_of_ble_eq_true rfl) dX9_conjugator_2) (wr := [(dr, .inr (9, [.ref dl, .int dz])), (dl, .inl (cy 0, 3600, .inl df)), (se, .inr (9, [.ref sl, .int sz])), (sl, .inl (cy 0, 3600, .inl sf)), (a1, .inr (9, [.ref b1, .int (nI xs.length)])), (b1, .inl (cy 0, 60, .inl f1)), (a2, .inr (9, [.ref b2, .int (nI ys.length)])), (b2, .inl (cy 0, 60, .inl f2)), (d, .inr (9, [.ref db, .int dn])), (db, .inl (cy 0, 60, .inl ef))]) [2, 3, 4, 5, 6, 7, 8, 9, 10, 11] rfl (by decide) (by decide) (Nat.le_refl _) (Nat.le_refl _) (fun u9 a9 ha9 => ?_)
  subst ha9
  refine j_astore_n C (lo1 := [(3, .ref a1), (0, .ref h), (1, .int (nI i)), (2, .int (nI j))]) rfl (by decide) rfl dX9_conjugator_5 ?_
  refine j_aload_n C rfl 1 rfl dX9_conjugator_6 ?_
  refine j_iload_n C rfl 3 rfl dX9_conjugator_7 ?_
  refine j_resr (k1 := 0) (n1 := 0) C (j_runV C (c_X9_wordAt (i := j) (a1 := a2) (by omega) (by omega) (by assumption)) gX9_conjugator_X9_wordAt rfl hdV_X9_wordAt ⟨Nat.le_of_ble_eq_true rfl, Nat.le_of_ble_eq_true rfl⟩ ⟨Nat.le_of_ble_eq_true rfl, Nat.le_of_ble_eq_true rfl⟩ 10 rfl rfl rfl [10, 11] rfl (by decide) rfl (Nat.le_of_ble_eq_true rfl) dX9_conjugator_8) (wr := [(dr, .inr (9, [.ref dl, .int dz])), (dl, .inl (cy 0, 3600, .inl df)), (se, .inr (9, [.ref sl, .int sz])), (sl, .inl (cy 0, 3600, .inl sf)), (a1, .inr (9, [.ref b1, .int (nI xs.length)])), (b1, .inl (cy 0, 60, .inl f1)), (a2, .inr (9, [.ref b2, .int (nI ys.length)])), (b2, .inl (cy 0, 60, .inl f2)), (d, .inr (9, [.ref db, .int dn])), (db, .inl (cy 0, 60, .inl ef))]) [0, 1, 2, 3, 4, 5, 6, 7, 8, 9] rfl (by decide) (by decide) (Nat.le_refl _) (Nat.le_refl _) (fun u9 a9 ha9 => ?_)
  subst ha9
  refine j_astore C (lo1 := [(4, .ref a2), (3, .ref a1), (0, .ref h), (1, .int (nI i)), (2, .int (nI j))]) (by decide) rfl dX9_conjugator_11 ?_
  refine j_aload C 0 rfl dX9_conjugator_13 ?_
  refine j_aload_n C rfl 1 rfl dX9_conjugator_15 ?_
  refine j_resi (k1 := 0) (n1 := 0) C (j_runV C (c_X7_turnU (by decide : 60 < 2 ^ 20) (by decide : 60 < 2 ^ 20) he2 he1 hc2 hc1 hT h26 h16 hf2 hf1 hy60 hx60) gX9_conjugator_X7_turnOfCore rfl hdV_X7_turnOfCore ⟨Nat.le_of_ble_eq_true rfl, Nat.le_of_ble_eq_true rfl⟩ ⟨Nat.le_of_ble_eq_true rfl, Nat.le_of_ble_eq_true rfl⟩ 6 rfl rfl rfl [6, 7, 4, 5] rfl (by decide) rfl (Nat.le_of_ble_eq_true rfl) dX9_conjugator_16) (wr := [(dr, .inr (9, [.ref dl, .int dz])), (dl, .inl (cy 0, 3600, .inl df)), (se, .inr (9, [.ref sl, .int sz])), (sl, .inl (cy 0, 3600, .inl sf)), (d, .inr (9, [.ref db, .int dn])), (db, .inl (cy 0, 60, .inl ef)), (h, .inr (11, [.ref ty, .int tn, .ref aw, .int (nI wn), .ref (ad 4), .ref (ad 5), .ref (ad 6), .int (nI 0), .ref (ad 8), .int (nI 0), .ref dr, .ref se, .ref (ad 12), .ref (ad 13), .ref (ad 14), .ref (ad 15), .ref (ad 16), .ref (ad 17)])), (aw, .inl (cy 4, 24, .inr (.inr (.inr (.inr g)))))]) [0, 1, 2, 3, 8, 9, 10, 11] rfl (by decide) (by decide) (Nat.le_refl _) (Nat.le_refl _) (fun v u hv => ?_)
  subst hv
  refine j_istore C (lo1 := [(5, .int (nI t)), (4, .ref a2), (3, .ref a1), (0, .ref h), (1, .int (nI i)), (2, .int (nI j))]) (by decide) rfl dX9_conjugator_19 ?_
  refine j_iload C 0 rfl dX9_conjugator_21 ?_
  refine j_iconst C (v := (-1)) (by decide +kernel) dX9_conjugator_23 ?_
  refine j_icmp_ne C (P := False) (fx_nm1 (by omega)) (tgt := 37) (by decide) dX9_conjugator_24 (fun ht => ?_) (fun hq => ?_)
  · refine j_aload_n C rfl 3 rfl dX9_conjugator_37 ?_
    refine j_aload_n C rfl 3 rfl dX9_conjugator_38 ?_
    refine j_getf C (Cn := RX9) (T := TX9) (N := 18) fin_X9_conjugator_RX9 6 rfl rfl 10 (by decide) (by decide +kernel) rfl dX9_conjugator_39 ?_
    refine j_aload_n C rfl 2 rfl dX9_conjugator_42 ?_
    refine j_aload C 1 rfl dX9_conjugator_43 ?_
    refine j_iload C 0 rfl dX9_conjugator_45 ?_
    refine j_iconst C (v := (nI 0)) (by decide +kernel) dX9_conjugator_47 ?_
    refine j_resv (k1 := 0) (n1 := 0) C (j_runV C (c_X9_setConjB h16 hf1 hx60 h26 hf2 hy60 he1 he2 hc1 hc2 hp htp hpc) gX9_conjugator_X9_setConjugator rfl hdV_X9_setConjugator ⟨Nat.le_of_ble_eq_true rfl, Nat.le_of_ble_eq_true rfl⟩ ⟨Nat.le_of_ble_eq_true rfl, Nat.le_of_ble_eq_true rfl⟩ 6 rfl rfl rfl [0, 1, 10, 11, 8, 9] rfl (by decide) rfl (Nat.le_of_ble_eq_true rfl) dX9_conjugator_48) (wr := [(se, .inr (9, [.ref sl, .int sz])), (sl, .inl (cy 0, 3600, .inl sf)), (d, .inr (9, [.ref db, .int dn])), (db, .inl (cy 0, 60, .inl ef)), (h, .inr (11, [.ref ty, .int tn, .ref aw, .int (nI wn), .ref (ad 4), .ref (ad 5), .ref (ad 6), .int (nI 0), .ref (ad 8), .int (nI 0), .ref dr, .ref se, .ref (ad 12), .ref (ad 13), .ref (ad 14), .ref (ad 15), .ref (ad 16), .ref (ad 17)])), (aw, .inl (cy 4, 24, .inr (.inr (.inr (.inr g)))))]) [2, 3, 4, 5, 6, 7] rfl (by decide) (by decide) (Nat.le_refl _) (Nat.le_refl _) (fun q1 hq1 => ?_)
    refine j_aload_n C rfl 3 rfl dX9_conjugator_51 ?_
    refine j_aload_n C rfl 3 rfl dX9_conjugator_52 ?_
    refine j_getf C (Cn := RX9) (T := TX9) (N := 18) fin_X9_conjugator_RX9 4 rfl rfl 11 (by decide) (by decide +kernel) rfl dX9_conjugator_53 ?_
    refine j_aload_n C rfl 2 rfl dX9_conjugator_56 ?_
    refine j_aload C 1 rfl dX9_conjugator_57 ?_
    refine j_iload C 0 rfl dX9_conjugator_59 ?_
    refine j_iconst C (v := (nI 1)) (by decide +kernel) dX9_conjugator_61 ?_
    refine j_resv (k1 := 0) (n1 := 0) C (j_runV C (c_X9_setConjF h16 hf1 hx60 h26 hf2 hy60 he1 he2 hc1 hc2 hp htp hpc) gX9_conjugator_X9_setConjugator rfl hdV_X9_setConjugator ⟨Nat.le_of_ble_eq_true rfl, Nat.le_of_ble_eq_true rfl⟩ ⟨Nat.le_of_ble_eq_true rfl, Nat.le_of_ble_eq_true rfl⟩ 4 rfl rfl rfl [0, 1, 8, 9, 10, 11] rfl (by decide) rfl (Nat.le_of_ble_eq_true rfl) dX9_conjugator_62) (wr := [(d, .inr (9, [.ref db, .int dn])), (db, .inl (cy 0, 60, .inl ef)), (h, .inr (11, [.ref ty, .int tn, .ref aw, .int (nI wn), .ref (ad 4), .ref (ad 5), .ref (ad 6), .int (nI 0), .ref (ad 8), .int (nI 0), .ref dr, .ref se, .ref (ad 12), .ref (ad 13), .ref (ad 14), .ref (ad 15), .ref (ad 16), .ref (ad 17)])), (aw, .inl (cy 4, 24, .inr (.inr (.inr (.inr g))))), (dr, .inr (9, [.ref dl, .int (nI ((red (seg (gd ys) 0 e2 ++ iv (seg (gd xs) e1 t) ++ iv (seg (gd xs) 0 e1))).length))])), (dl, .inl (cy 0, 3600, .inl q1))]) [2, 3, 4, 5, 6, 7] rfl (by decide) (by decide) (Nat.le_refl _) (Nat.le_refl _) (fun q2 hq2 => ?_)
    have hk1 := red_len (seg (gd ys) 0 e2 ++ iv (seg (gd xs) e1 t) ++ iv (seg (gd xs) 0 e1))
    have hk2 := red_len (seg (gd ys) 0 e2 ++ seg (gd xs) (e1 + t) (per - t) ++ iv (seg (gd xs) 0 e1))
    simp only [List.length_append, iv_len, seg_len] at hk1 hk2
    have l61 : L6 (red (seg (gd ys) 0 e2 ++ iv (seg (gd xs) e1 t) ++ iv (seg (gd xs) 0 e1))) := L6_red (L6_app (L6_app (L6_seg h26 (by omega)) (L6_iv (L6_seg h16 (by omega)))) (L6_iv (L6_seg h16 (by omega))))
    have l62 : L6 (red (seg (gd ys) 0 e2 ++ seg (gd xs) (e1 + t) (per - t) ++ iv (seg (gd xs) 0 e1))) := L6_red (L6_app (L6_app (L6_seg h26 (by omega)) (L6_seg h16 (by omega))) (L6_iv (L6_seg h16 (by omega))))
    refine j_aload_n C rfl 3 rfl dX9_conjugator_65 ?_
    refine j_aload_n C rfl 3 rfl dX9_conjugator_66 ?_
    refine j_getf C (Cn := RX9) (T := TX9) (N := 18) fin_X9_conjugator_RX9 2 rfl rfl 11 (by decide) (by decide +kernel) rfl dX9_conjugator_67 ?_
    refine j_aload_n C rfl 3 rfl dX9_conjugator_70 ?_
    refine j_getf C (Cn := RX9) (T := TX9) (N := 18) fin_X9_conjugator_RX9 2 rfl rfl 10 (by decide) (by decide +kernel) rfl dX9_conjugator_71 ?_
    refine j_resi (k1 := 0) (n1 := 0) C (j_runV C (c_X7_orderTo (by decide : 3600 < 2 ^ 20) (by decide : 3600 < 2 ^ 20) l62 l61 hq2 hq1 (by omega) (by omega)) gX9_conjugator_X7_orderTo rfl hdV_X7_orderTo ⟨Nat.le_of_ble_eq_true rfl, Nat.le_of_ble_eq_true rfl⟩ ⟨Nat.le_of_ble_eq_true rfl, Nat.le_of_ble_eq_true rfl⟩ 6 rfl rfl rfl [6, 7, 4, 5] rfl (by decide) rfl (Nat.le_of_ble_eq_true rfl) dX9_conjugator_74) (wr := [(d, .inr (9, [.ref db, .int dn])), (db, .inl (cy 0, 60, .inl ef)), (h, .inr (11, [.ref ty, .int tn, .ref aw, .int (nI wn), .ref (ad 4), .ref (ad 5), .ref (ad 6), .int (nI 0), .ref (ad 8), .int (nI 0), .ref dr, .ref se, .ref (ad 12), .ref (ad 13), .ref (ad 14), .ref (ad 15), .ref (ad 16), .ref (ad 17)])), (aw, .inl (cy 4, 24, .inr (.inr (.inr (.inr g))))), (a1, .inr (9, [.ref b1, .int (nI xs.length)])), (b1, .inl (cy 0, 60, .inl f1)), (a2, .inr (9, [.ref b2, .int (nI ys.length)])), (b2, .inl (cy 0, 60, .inl f2))]) [0, 1, 2, 3, 8, 9, 10, 11] rfl (by decide) (by decide) (Nat.le_refl _) (Nat.le_refl _) (fun v u hv => ?_)
    subst hv
    refine j_if_ge C (P := ¬ fo (red (seg (gd ys) 0 e2 ++ seg (gd xs) (e1 + t) (per - t) ++ iv (seg (gd xs) 0 e1))) (red (seg (gd ys) 0 e2 ++ iv (seg (gd xs) e1 t) ++ iv (seg (gd xs) 0 e1))) < 0) (Int32.not_lt.symm) (tgt := 87) (by decide) dX9_conjugator_77 (fun ha => ?_) (fun hb => ?_)
    · refine j_aload_n C rfl 3 rfl dX9_conjugator_87 ?_
      refine j_getf C (Cn := RX9) (T := TX9) (N := 18) fin_X9_conjugator_RX9 2 rfl rfl 10 (by decide) (by decide +kernel) rfl dX9_conjugator_88 ?_
      refine j_resi (k1 := 0) (n1 := 0) C (j_runV C (c_X9_keep (xs := red (seg (gd ys) 0 e2 ++ iv (seg (gd xs) e1 t) ++ iv (seg (gd xs) 0 e1))) hw4 hgd (by decide) (by omega) l61 hq1 (by omega)) gX9_conjugator_X9_keep rfl hdV_X9_keep ⟨Nat.le_of_ble_eq_true rfl, Nat.le_of_ble_eq_true rfl⟩ ⟨Nat.le_of_ble_eq_true rfl, Nat.le_of_ble_eq_true rfl⟩ 2 rfl rfl rfl [2, 3, 10, 11, 0, 1] rfl (by decide) rfl (Nat.le_of_ble_eq_true rfl) dX9_conjugator_91) (wr := [(a1, .inr (9, [.ref b1, .int (nI xs.length)])), (b1, .inl (cy 0, 60, .inl f1)), (a2, .inr (9, [.ref b2, .int (nI ys.length)])), (b2, .inl (cy 0, 60, .inl f2)), (se, .inr (9, [.ref sl, .int (nI ((red (seg (gd ys) 0 e2 ++ seg (gd xs) (e1 + t) (per - t) ++ iv (seg (gd xs) 0 e1))).length))])), (sl, .inl (cy 0, 3600, .inl q2))]) [4, 5, 6, 7, 8, 9] rfl (by decide) (by decide) (Nat.le_refl _) (Nat.le_refl _) (fun v e3 hv => ?_)
      obtain ⟨hv, he3⟩ := hv
      subst hv
      have hfr : frst (red (seg (gd ys) 0 e2 ++ iv (seg (gd xs) e1 t) ++ iv (seg (gd xs) 0 e1))) (red (seg (gd ys) 0 e2 ++ seg (gd xs) (e1 + t) (per - t) ++ iv (seg (gd xs) 0 e1))) = red (seg (gd ys) 0 e2 ++ iv (seg (gd xs) e1 t) ++ iv (seg (gd xs) 0 e1)) := if_neg ha
      exact j_iret C rfl (rfl) (q1, q2, e3) ⟨rfl, hq1, hq2, by rw [hfr]; exact he3⟩ [6, 7, 8, 9, 4, 5, 0, 1, 2, 3, 10, 11] (by rw [hfr]; rfl) (by decide) (Nat.le_of_ble_eq_true rfl) (Nat.le_of_ble_eq_true rfl) dX9_conjugator_94
    · refine j_aload_n C rfl 3 rfl dX9_conjugator_80 ?_
      refine j_getf C (Cn := RX9) (T := TX9) (N := 18) fin_X9_conjugator_RX9 2 rfl rfl 11 (by decide) (by decide +kernel) rfl dX9_conjugator_81 ?_
      refine j_goto C (tgt := 91) (by decide) dX9_conjugator_84 ?_
      refine j_resi (k1 := 0) (n1 := 0) C (j_runV C (c_X9_keep (xs := red (seg (gd ys) 0 e2 ++ seg (gd xs) (e1 + t) (per - t) ++ iv (seg (gd xs) 0 e1))) hw4 hgd (by decide) (by omega) l62 hq2 (by omega)) gX9_conjugator_X9_keep rfl hdV_X9_keep ⟨Nat.le_of_ble_eq_true rfl, Nat.le_of_ble_eq_true rfl⟩ ⟨Nat.le_of_ble_eq_true rfl, Nat.le_of_ble_eq_true rfl⟩ 2 rfl rfl rfl [2, 3, 8, 9, 0, 1] rfl (by decide) rfl (Nat.le_of_ble_eq_true rfl) dX9_conjugator_91) (wr := [(a1, .inr (9, [.ref b1, .int (nI xs.length)])), (b1, .inl (cy 0, 60, .inl f1)), (a2, .inr (9, [.ref b2, .int (nI ys.length)])), (b2, .inl (cy 0, 60, .inl f2)), (dr, .inr (9, [.ref dl, .int (nI ((red (seg (gd ys) 0 e2 ++ iv (seg (gd xs) e1 t) ++ iv (seg (gd xs) 0 e1))).length))])), (dl, .inl (cy 0, 3600, .inl q1))]) [4, 5, 6, 7, 10, 11] rfl (by decide) (by decide) (Nat.le_refl _) (Nat.le_refl _) (fun v e3 hv => ?_)
      obtain ⟨hv, he3⟩ := hv
      subst hv
      have hfr : frst (red (seg (gd ys) 0 e2 ++ iv (seg (gd xs) e1 t) ++ iv (seg (gd xs) 0 e1))) (red (seg (gd ys) 0 e2 ++ seg (gd xs) (e1 + t) (per - t) ++ iv (seg (gd xs) 0 e1))) = red (seg (gd ys) 0 e2 ++ seg (gd xs) (e1 + t) (per - t) ++ iv (seg (gd xs) 0 e1)) := if_pos (Classical.not_not.mp hb)
      exact j_iret C rfl (rfl) (q1, q2, e3) ⟨rfl, hq1, hq2, by rw [hfr]; exact he3⟩ [6, 7, 4, 5, 8, 9, 0, 1, 2, 3, 10, 11] (by rw [hfr]; rfl) (by decide) (Nat.le_of_ble_eq_true rfl) (Nat.le_of_ble_eq_true rfl) dX9_conjugator_94
  · exact hq.elim
set_option maxRecDepth 100000 in
theorem fin_X9_isSound_RX9 : ∀ w ∈ u_ws RX9 TX9 18, w ∈ wsX9_isSound := by decide +kernel
theorem hdV_X7_isCancelled : yX7_isCancelled.cls = RX7 ∧ yX7_isCancelled.cls ≠ "java/lang/invoke/MethodHandle" ∧ yX7_isCancelled.cls ≠ "java/lang/invoke/VarHandle" ∧ (parseMethodDescriptor yX7_isCancelled.desc).map (fun d => d.parameters.length) = some 0 := by decide +kernel
set_option maxHeartbeats 4000000 in
set_option maxRecDepth 100000 in
/-- isSound: thirteen words -/
theorem c_X9_isSound {l : Launch} {G : va_G} {cy : Nat → ClassId} {h ty aw dr se : Nat} {ad : Nat → Nat} {tn : Int32} {g : Nat → Option Nat} {ra rb : Nat → Nat} {xs : Nat → List Nat} {ff : Nat → Nat → Int32} (hg : ∀ i, i < 13 → g i = some (ra i)) (hr : ∀ i, i < 13 → Rd (xs i)) (h6 : ∀ i, i < 13 → L6 (xs i)) (hf : ∀ i, i < 13 → Hd (ff i) (xs i)) (hx : ∀ i, i < 13 → (xs i).length ≤ 60) : Ki l yX9_isSound wsX9_isSound G cy [.ref h] [(h, .inr (11, [.ref ty, .int tn, .ref aw, .int (nI 13), .ref (ad 4), .ref (ad 5), .ref (ad 6), .int (nI 0), .ref (ad 8), .int (nI 0), .ref dr, .ref se, .ref (ad 12), .ref (ad 13), .ref (ad 14), .ref (ad 15), .ref (ad 16), .ref (ad 17)])), (aw, .inl (cy 4, 24, .inr (.inr (.inr (.inr g))))), ((ra 0), .inr (9, [.ref (rb 0), .int (nI ((xs 0).length))])), ((rb 0), .inl (cy 0, 60, .inl (ff 0))), ((ra 1), .inr (9, [.ref (rb 1), .int (nI ((xs 1).length))])), ((rb 1), .inl (cy 0, 60, .inl (ff 1))), ((ra 2), .inr (9, [.ref (rb 2), .int (nI ((xs 2).length))])), ((rb 2), .inl (cy 0, 60, .inl (ff 2))), ((ra 3), .inr (9, [.ref (rb 3), .int (nI ((xs 3).length))])), ((rb 3), .inl (cy 0, 60, .inl (ff 3))), ((ra 4), .inr (9, [.ref (rb 4), .int (nI ((xs 4).length))])), ((rb 4), .inl (cy 0, 60, .inl (ff 4))), ((ra 5), .inr (9, [.ref (rb 5), .int (nI ((xs 5).length))])), ((rb 5), .inl (cy 0, 60, .inl (ff 5))), ((ra 6), .inr (9, [.ref (rb 6), .int (nI ((xs 6).length))])), ((rb 6), .inl (cy 0, 60, .inl (ff 6))), ((ra 7), .inr (9, [.ref (rb 7), .int (nI ((xs 7).length))])), ((rb 7), .inl (cy 0, 60, .inl (ff 7))), ((ra 8), .inr (9, [.ref (rb 8), .int (nI ((xs 8).length))])), ((rb 8), .inl (cy 0, 60, .inl (ff 8))), ((ra 9), .inr (9, [.ref (rb 9), .int (nI ((xs 9).length))])), ((rb 9), .inl (cy 0, 60, .inl (ff 9))), ((ra 10), .inr (9, [.ref (rb 10), .int (nI ((xs 10).length))])), ((rb 10), .inl (cy 0, 60, .inl (ff 10))), ((ra 11), .inr (9, [.ref (rb 11), .int (nI ((xs 11).length))])), ((rb 11), .inl (cy 0, 60, .inl (ff 11))), ((ra 12), .inr (9, [.ref (rb 12), .int (nI ((xs 12).length))])), ((rb 12), .inl (cy 0, 60, .inl (ff 12)))] (fun (v : Int32) (_ : Unit) => v = 1) (fun _ => [(h, .inr (11, [.ref ty, .int tn, .ref aw, .int (nI 13), .ref (ad 4), .ref (ad 5), .ref (ad 6), .int (nI 0), .ref (ad 8), .int (nI 0), .ref dr, .ref se, .ref (ad 12), .ref (ad 13), .ref (ad 14), .ref (ad 15), .ref (ad 16), .ref (ad 17)])), (aw, .inl (cy 4, 24, .inr (.inr (.inr (.inr g))))), ((ra 0), .inr (9, [.ref (rb 0), .int (nI ((xs 0).length))])), ((rb 0), .inl (cy 0, 60, .inl (ff 0))), ((ra 1), .inr (9, [.ref (rb 1), .int (nI ((xs 1).length))])), ((rb 1), .inl (cy 0, 60, .inl (ff 1))), ((ra 2), .inr (9, [.ref (rb 2), .int (nI ((xs 2).length))])), ((rb 2), .inl (cy 0, 60, .inl (ff 2))), ((ra 3), .inr (9, [.ref (rb 3), .int (nI ((xs 3).length))])), ((rb 3), .inl (cy 0, 60, .inl (ff 3))), ((ra 4), .inr (9, [.ref (rb 4), .int (nI ((xs 4).length))])), ((rb 4), .inl (cy 0, 60, .inl (ff 4))), ((ra 5), .inr (9, [.ref (rb 5), .int (nI ((xs 5).length))])), ((rb 5), .inl (cy 0, 60, .inl (ff 5))), ((ra 6), .inr (9, [.ref (rb 6), .int (nI ((xs 6).length))])), ((rb 6), .inl (cy 0, 60, .inl (ff 6))), ((ra 7), .inr (9, [.ref (rb 7), .int (nI ((xs 7).length))])), ((rb 7), .inl (cy 0, 60, .inl (ff 7))), ((ra 8), .inr (9, [.ref (rb 8), .int (nI ((xs 8).length))])), ((rb 8), .inl (cy 0, 60, .inl (ff 8))), ((ra 9), .inr (9, [.ref (rb 9), .int (nI ((xs 9).length))])), ((rb 9), .inl (cy 0, 60, .inl (ff 9))), ((ra 10), .inr (9, [.ref (rb 10), .int (nI ((xs 10).length))])), ((rb 10), .inl (cy 0, 60, .inl (ff 10))), ((ra 11), .inr (9, [.ref (rb 11), .int (nI ((xs 11).length))])), ((rb 11), .inl (cy 0, 60, .inl (ff 11))), ((ra 12), .inr (9, [.ref (rb 12), .int (nI ((xs 12).length))])), ((rb 12), .inl (cy 0, 60, .inl (ff 12)))]) 1 0 0 21 := by
  refine Ki_of (cc := cX9_isSound) (nL := 4) (by decide) rfl (Nat.le_of_ble_eq_true rfl) ?_
  intro p e s m args below meth c A C hnm
  refine j_lo (lo1 := [(0, .ref h)]) [0] rfl ?_
  refine j_iconst C (v := (nI 1)) (by decide +kernel) dX9_isSound_0 ?_
  refine j_istore_n C (lo1 := [(1, .int (nI 1)), (0, .ref h)]) rfl (by decide) rfl dX9_isSound_1 ?_
  refine j_iconst C (v := (nI 0)) (by decide +kernel) dX9_isSound_2 ?_
  refine j_istore_n C (lo1 := [(2, .int (nI 0)), (1, .int (nI 1)), (0, .ref h)]) rfl (by decide) rfl dX9_isSound_3 ?_
  refine j_lo (lo1 := [(2, .int (nI 0)), (1, .int (nI 1)), (0, .ref h)]) [0, 1, 2] rfl ?_
  refine j_iload_n C rfl 0 rfl dX9_isSound_4 ?_
  refine j_aload_n C rfl 2 rfl dX9_isSound_5 ?_
  refine j_getf C (Cn := RX9) (T := TX9) (N := 18) fin_X9_isSound_RX9 0 rfl rfl 3 (by decide) (by decide +kernel) rfl dX9_isSound_6 ?_
  refine j_icmp_ge C (P := False) (by decide) (tgt := 40) (by decide) dX9_isSound_9 (fun ht => absurd ht (id)) (fun hq => ?_)
  refine j_iload_n C rfl 1 rfl dX9_isSound_12 ?_
  refine j_if_eq C (P := False) (by decide) (tgt := 32) (by decide) dX9_isSound_13 (fun ht => absurd ht (id)) (fun hq => ?_)
  refine j_aload_n C rfl 2 rfl dX9_isSound_16 ?_
  refine j_getf C (Cn := RX9) (T := TX9) (N := 18) fin_X9_isSound_RX9 0 rfl rfl 2 (by decide) (by decide +kernel) rfl dX9_isSound_17 ?_
  refine j_iload_n C rfl 0 rfl dX9_isSound_20 ?_
  refine j_aald C 1 4 rfl rfl (j := 0) (by omega) (by omega) (r := (ra 0)) (hg 0 (by decide)) dX9_isSound_21 ?_
  refine j_resi (k1 := 0) (n1 := 0) C (j_runV C (c_X7_isCancelled (by decide : 60 < 2 ^ 20) (hr 0 (by decide)) (h6 0 (by decide)) (hf 0 (by decide)) (hx 0 (by decide))) gX9_isSound_X7_isCancelled rfl hdV_X7_isCancelled ⟨Nat.le_of_ble_eq_true rfl, Nat.le_of_ble_eq_true rfl⟩ ⟨Nat.le_of_ble_eq_true rfl, Nat.le_of_ble_eq_true rfl⟩ 2 rfl rfl rfl [2, 3] rfl (by decide) rfl (Nat.le_of_ble_eq_true rfl) dX9_isSound_22) (wr := [(h, .inr (11, [.ref ty, .int tn, .ref aw, .int (nI 13), .ref (ad 4), .ref (ad 5), .ref (ad 6), .int (nI 0), .ref (ad 8), .int (nI 0), .ref dr, .ref se, .ref (ad 12), .ref (ad 13), .ref (ad 14), .ref (ad 15), .ref (ad 16), .ref (ad 17)])), (aw, .inl (cy 4, 24, .inr (.inr (.inr (.inr g))))), ((ra 1), .inr (9, [.ref (rb 1), .int (nI ((xs 1).length))])), ((rb 1), .inl (cy 0, 60, .inl (ff 1))), ((ra 2), .inr (9, [.ref (rb 2), .int (nI ((xs 2).length))])), ((rb 2), .inl (cy 0, 60, .inl (ff 2))), ((ra 3), .inr (9, [.ref (rb 3), .int (nI ((xs 3).length))])), ((rb 3), .inl (cy 0, 60, .inl (ff 3))), ((ra 4), .inr (9, [.ref (rb 4), .int (nI ((xs 4).length))])), ((rb 4), .inl (cy 0, 60, .inl (ff 4))), ((ra 5), .inr (9, [.ref (rb 5), .int (nI ((xs 5).length))])), ((rb 5), .inl (cy 0, 60, .inl (ff 5))), ((ra 6), .inr (9, [.ref (rb 6), .int (nI ((xs 6).length))])), ((rb 6), .inl (cy 0, 60, .inl (ff 6))), ((ra 7), .inr (9, [.ref (rb 7), .int (nI ((xs 7).length))])), ((rb 7), .inl (cy 0, 60, .inl (ff 7))), ((ra 8), .inr (9, [.ref (rb 8), .int (nI ((xs 8).length))])), ((rb 8), .inl (cy 0, 60, .inl (ff 8))), ((ra 9), .inr (9, [.ref (rb 9), .int (nI ((xs 9).length))])), ((rb 9), .inl (cy 0, 60, .inl (ff 9))), ((ra 10), .inr (9, [.ref (rb 10), .int (nI ((xs 10).length))])), ((rb 10), .inl (cy 0, 60, .inl (ff 10))), ((ra 11), .inr (9, [.ref (rb 11), .int (nI ((xs 11).length))])), ((rb 11), .inl (cy 0, 60, .inl (ff 11))), ((ra 12), .inr (9, [.ref (rb 12), .int (nI ((xs 12).length))])), ((rb 12), .inl (cy 0, 60, .inl (ff 12)))]) [0, 1, 4, 5, 6, 7, 8, 9, 10, 11, 12, 13, 14, 15, 16, 17, 18, 19, 20, 21, 22, 23, 24, 25, 26, 27] rfl (by decide) (by decide) (Nat.le_refl _) (Nat.le_refl _) (fun v u hv => ?_)
  subst hv
  refine j_if_eq C (P := False) (by decide) (tgt := 32) (by decide) dX9_isSound_25 (fun ht => absurd ht (id)) (fun hq => ?_)
  refine j_iconst C (v := (nI 1)) (by decide +kernel) dX9_isSound_28 ?_
  refine j_goto C (tgt := 33) (by decide) dX9_isSound_29 ?_
  refine j_istore_n C (lo1 := [(1, .int (nI 1)), (2, .int (nI 0)), (0, .ref h)]) rfl (by decide) rfl dX9_isSound_33 ?_
  refine j_iinc C (v := (nI 1)) (lo1 := [(2, .int (nI 1)), (1, .int (nI 1)), (0, .ref h)]) 1 rfl (fx_inc 0 1) (by decide) rfl dX9_isSound_34 ?_
  refine j_goto C (tgt := 4) (by decide) dX9_isSound_37 ?_
  refine j_lo (lo1 := [(2, .int (nI 1)), (1, .int (nI 1)), (0, .ref h)]) [0, 1, 2] rfl ?_
  refine j_iload_n C rfl 0 rfl dX9_isSound_4 ?_
  refine j_aload_n C rfl 2 rfl dX9_isSound_5 ?_
  refine j_getf C (Cn := RX9) (T := TX9) (N := 18) fin_X9_isSound_RX9 0 rfl rfl 3 (by decide) (by decide +kernel) rfl dX9_isSound_6 ?_
  refine j_icmp_ge C (P := False) (by decide) (tgt := 40) (by decide) dX9_isSound_9 (fun ht => absurd ht (id)) (fun hq => ?_)
  refine j_iload_n C rfl 1 rfl dX9_isSound_12 ?_
  refine j_if_eq C (P := False) (by decide) (tgt := 32) (by decide) dX9_isSound_13 (fun ht => absurd ht (id)) (fun hq => ?_)
  refine j_aload_n C rfl 2 rfl dX9_isSound_16 ?_
  refine j_getf C (Cn := RX9) (T := TX9) (N := 18) fin_X9_isSound_RX9 0 rfl rfl 2 (by decide) (by decide +kernel) rfl dX9_isSound_17 ?_
  refine j_iload_n C rfl 0 rfl dX9_isSound_20 ?_
  refine j_aald C 1 4 rfl rfl (j := 1) (by omega) (by omega) (r := (ra 1)) (hg 1 (by decide)) dX9_isSound_21 ?_
  refine j_resi (k1 := 0) (n1 := 0) C (j_runV C (c_X7_isCancelled (by decide : 60 < 2 ^ 20) (hr 1 (by decide)) (h6 1 (by decide)) (hf 1 (by decide)) (hx 1 (by decide))) gX9_isSound_X7_isCancelled rfl hdV_X7_isCancelled ⟨Nat.le_of_ble_eq_true rfl, Nat.le_of_ble_eq_true rfl⟩ ⟨Nat.le_of_ble_eq_true rfl, Nat.le_of_ble_eq_true rfl⟩ 2 rfl rfl rfl [2, 3] rfl (by decide) rfl (Nat.le_of_ble_eq_true rfl) dX9_isSound_22) (wr := [(h, .inr (11, [.ref ty, .int tn, .ref aw, .int (nI 13), .ref (ad 4), .ref (ad 5), .ref (ad 6), .int (nI 0), .ref (ad 8), .int (nI 0), .ref dr, .ref se, .ref (ad 12), .ref (ad 13), .ref (ad 14), .ref (ad 15), .ref (ad 16), .ref (ad 17)])), (aw, .inl (cy 4, 24, .inr (.inr (.inr (.inr g))))), ((ra 2), .inr (9, [.ref (rb 2), .int (nI ((xs 2).length))])), ((rb 2), .inl (cy 0, 60, .inl (ff 2))), ((ra 3), .inr (9, [.ref (rb 3), .int (nI ((xs 3).length))])), ((rb 3), .inl (cy 0, 60, .inl (ff 3))), ((ra 4), .inr (9, [.ref (rb 4), .int (nI ((xs 4).length))])), ((rb 4), .inl (cy 0, 60, .inl (ff 4))), ((ra 5), .inr (9, [.ref (rb 5), .int (nI ((xs 5).length))])), ((rb 5), .inl (cy 0, 60, .inl (ff 5))), ((ra 6), .inr (9, [.ref (rb 6), .int (nI ((xs 6).length))])), ((rb 6), .inl (cy 0, 60, .inl (ff 6))), ((ra 7), .inr (9, [.ref (rb 7), .int (nI ((xs 7).length))])), ((rb 7), .inl (cy 0, 60, .inl (ff 7))), ((ra 8), .inr (9, [.ref (rb 8), .int (nI ((xs 8).length))])), ((rb 8), .inl (cy 0, 60, .inl (ff 8))), ((ra 9), .inr (9, [.ref (rb 9), .int (nI ((xs 9).length))])), ((rb 9), .inl (cy 0, 60, .inl (ff 9))), ((ra 10), .inr (9, [.ref (rb 10), .int (nI ((xs 10).length))])), ((rb 10), .inl (cy 0, 60, .inl (ff 10))), ((ra 11), .inr (9, [.ref (rb 11), .int (nI ((xs 11).length))])), ((rb 11), .inl (cy 0, 60, .inl (ff 11))), ((ra 12), .inr (9, [.ref (rb 12), .int (nI ((xs 12).length))])), ((rb 12), .inl (cy 0, 60, .inl (ff 12))), ((ra 0), .inr (9, [.ref (rb 0), .int (nI ((xs 0).length))])), ((rb 0), .inl (cy 0, 60, .inl (ff 0)))]) [0, 1, 4, 5, 6, 7, 8, 9, 10, 11, 12, 13, 14, 15, 16, 17, 18, 19, 20, 21, 22, 23, 24, 25, 26, 27] rfl (by decide) (by decide) (Nat.le_refl _) (Nat.le_refl _) (fun v u hv => ?_)
  subst hv
  refine j_if_eq C (P := False) (by decide) (tgt := 32) (by decide) dX9_isSound_25 (fun ht => absurd ht (id)) (fun hq => ?_)
  refine j_iconst C (v := (nI 1)) (by decide +kernel) dX9_isSound_28 ?_
  refine j_goto C (tgt := 33) (by decide) dX9_isSound_29 ?_
  refine j_istore_n C (lo1 := [(1, .int (nI 1)), (2, .int (nI 1)), (0, .ref h)]) rfl (by decide) rfl dX9_isSound_33 ?_
  refine j_iinc C (v := (nI 2)) (lo1 := [(2, .int (nI 2)), (1, .int (nI 1)), (0, .ref h)]) 1 rfl (fx_inc 1 1) (by decide) rfl dX9_isSound_34 ?_
  refine j_goto C (tgt := 4) (by decide) dX9_isSound_37 ?_
  refine j_lo (lo1 := [(2, .int (nI 2)), (1, .int (nI 1)), (0, .ref h)]) [0, 1, 2] rfl ?_
  refine j_iload_n C rfl 0 rfl dX9_isSound_4 ?_
  refine j_aload_n C rfl 2 rfl dX9_isSound_5 ?_
  refine j_getf C (Cn := RX9) (T := TX9) (N := 18) fin_X9_isSound_RX9 0 rfl rfl 3 (by decide) (by decide +kernel) rfl dX9_isSound_6 ?_
  refine j_icmp_ge C (P := False) (by decide) (tgt := 40) (by decide) dX9_isSound_9 (fun ht => absurd ht (id)) (fun hq => ?_)
  refine j_iload_n C rfl 1 rfl dX9_isSound_12 ?_
  refine j_if_eq C (P := False) (by decide) (tgt := 32) (by decide) dX9_isSound_13 (fun ht => absurd ht (id)) (fun hq => ?_)
  refine j_aload_n C rfl 2 rfl dX9_isSound_16 ?_
  refine j_getf C (Cn := RX9) (T := TX9) (N := 18) fin_X9_isSound_RX9 0 rfl rfl 2 (by decide) (by decide +kernel) rfl dX9_isSound_17 ?_
  refine j_iload_n C rfl 0 rfl dX9_isSound_20 ?_
  refine j_aald C 1 4 rfl rfl (j := 2) (by omega) (by omega) (r := (ra 2)) (hg 2 (by decide)) dX9_isSound_21 ?_
  refine j_resi (k1 := 0) (n1 := 0) C (j_runV C (c_X7_isCancelled (by decide : 60 < 2 ^ 20) (hr 2 (by decide)) (h6 2 (by decide)) (hf 2 (by decide)) (hx 2 (by decide))) gX9_isSound_X7_isCancelled rfl hdV_X7_isCancelled ⟨Nat.le_of_ble_eq_true rfl, Nat.le_of_ble_eq_true rfl⟩ ⟨Nat.le_of_ble_eq_true rfl, Nat.le_of_ble_eq_true rfl⟩ 2 rfl rfl rfl [2, 3] rfl (by decide) rfl (Nat.le_of_ble_eq_true rfl) dX9_isSound_22) (wr := [(h, .inr (11, [.ref ty, .int tn, .ref aw, .int (nI 13), .ref (ad 4), .ref (ad 5), .ref (ad 6), .int (nI 0), .ref (ad 8), .int (nI 0), .ref dr, .ref se, .ref (ad 12), .ref (ad 13), .ref (ad 14), .ref (ad 15), .ref (ad 16), .ref (ad 17)])), (aw, .inl (cy 4, 24, .inr (.inr (.inr (.inr g))))), ((ra 3), .inr (9, [.ref (rb 3), .int (nI ((xs 3).length))])), ((rb 3), .inl (cy 0, 60, .inl (ff 3))), ((ra 4), .inr (9, [.ref (rb 4), .int (nI ((xs 4).length))])), ((rb 4), .inl (cy 0, 60, .inl (ff 4))), ((ra 5), .inr (9, [.ref (rb 5), .int (nI ((xs 5).length))])), ((rb 5), .inl (cy 0, 60, .inl (ff 5))), ((ra 6), .inr (9, [.ref (rb 6), .int (nI ((xs 6).length))])), ((rb 6), .inl (cy 0, 60, .inl (ff 6))), ((ra 7), .inr (9, [.ref (rb 7), .int (nI ((xs 7).length))])), ((rb 7), .inl (cy 0, 60, .inl (ff 7))), ((ra 8), .inr (9, [.ref (rb 8), .int (nI ((xs 8).length))])), ((rb 8), .inl (cy 0, 60, .inl (ff 8))), ((ra 9), .inr (9, [.ref (rb 9), .int (nI ((xs 9).length))])), ((rb 9), .inl (cy 0, 60, .inl (ff 9))), ((ra 10), .inr (9, [.ref (rb 10), .int (nI ((xs 10).length))])), ((rb 10), .inl (cy 0, 60, .inl (ff 10))), ((ra 11), .inr (9, [.ref (rb 11), .int (nI ((xs 11).length))])), ((rb 11), .inl (cy 0, 60, .inl (ff 11))), ((ra 12), .inr (9, [.ref (rb 12), .int (nI ((xs 12).length))])), ((rb 12), .inl (cy 0, 60, .inl (ff 12))), ((ra 0), .inr (9, [.ref (rb 0), .int (nI ((xs 0).length))])), ((rb 0), .inl (cy 0, 60, .inl (ff 0))), ((ra 1), .inr (9, [.ref (rb 1), .int (nI ((xs 1).length))])), ((rb 1), .inl (cy 0, 60, .inl (ff 1)))]) [0, 1, 4, 5, 6, 7, 8, 9, 10, 11, 12, 13, 14, 15, 16, 17, 18, 19, 20, 21, 22, 23, 24, 25, 26, 27] rfl (by decide) (by decide) (Nat.le_refl _) (Nat.le_refl _) (fun v u hv => ?_)
  subst hv
  refine j_if_eq C (P := False) (by decide) (tgt := 32) (by decide) dX9_isSound_25 (fun ht => absurd ht (id)) (fun hq => ?_)
  refine j_iconst C (v := (nI 1)) (by decide +kernel) dX9_isSound_28 ?_
  refine j_goto C (tgt := 33) (by decide) dX9_isSound_29 ?_
  refine j_istore_n C (lo1 := [(1, .int (nI 1)), (2, .int (nI 2)), (0, .ref h)]) rfl (by decide) rfl dX9_isSound_33 ?_
  refine j_iinc C (v := (nI 3)) (lo1 := [(2, .int (nI 3)), (1, .int (nI 1)), (0, .ref h)]) 1 rfl (fx_inc 2 1) (by decide) rfl dX9_isSound_34 ?_
  refine j_goto C (tgt := 4) (by decide) dX9_isSound_37 ?_
  refine j_lo (lo1 := [(2, .int (nI 3)), (1, .int (nI 1)), (0, .ref h)]) [0, 1, 2] rfl ?_
  refine j_iload_n C rfl 0 rfl dX9_isSound_4 ?_
  refine j_aload_n C rfl 2 rfl dX9_isSound_5 ?_
  refine j_getf C (Cn := RX9) (T := TX9) (N := 18) fin_X9_isSound_RX9 0 rfl rfl 3 (by decide) (by decide +kernel) rfl dX9_isSound_6 ?_
  refine j_icmp_ge C (P := False) (by decide) (tgt := 40) (by decide) dX9_isSound_9 (fun ht => absurd ht (id)) (fun hq => ?_)
  refine j_iload_n C rfl 1 rfl dX9_isSound_12 ?_
  refine j_if_eq C (P := False) (by decide) (tgt := 32) (by decide) dX9_isSound_13 (fun ht => absurd ht (id)) (fun hq => ?_)
  refine j_aload_n C rfl 2 rfl dX9_isSound_16 ?_
  refine j_getf C (Cn := RX9) (T := TX9) (N := 18) fin_X9_isSound_RX9 0 rfl rfl 2 (by decide) (by decide +kernel) rfl dX9_isSound_17 ?_
  refine j_iload_n C rfl 0 rfl dX9_isSound_20 ?_
  refine j_aald C 1 4 rfl rfl (j := 3) (by omega) (by omega) (r := (ra 3)) (hg 3 (by decide)) dX9_isSound_21 ?_
  refine j_resi (k1 := 0) (n1 := 0) C (j_runV C (c_X7_isCancelled (by decide : 60 < 2 ^ 20) (hr 3 (by decide)) (h6 3 (by decide)) (hf 3 (by decide)) (hx 3 (by decide))) gX9_isSound_X7_isCancelled rfl hdV_X7_isCancelled ⟨Nat.le_of_ble_eq_true rfl, Nat.le_of_ble_eq_true rfl⟩ ⟨Nat.le_of_ble_eq_true rfl, Nat.le_of_ble_eq_true rfl⟩ 2 rfl rfl rfl [2, 3] rfl (by decide) rfl (Nat.le_of_ble_eq_true rfl) dX9_isSound_22) (wr := [(h, .inr (11, [.ref ty, .int tn, .ref aw, .int (nI 13), .ref (ad 4), .ref (ad 5), .ref (ad 6), .int (nI 0), .ref (ad 8), .int (nI 0), .ref dr, .ref se, .ref (ad 12), .ref (ad 13), .ref (ad 14), .ref (ad 15), .ref (ad 16), .ref (ad 17)])), (aw, .inl (cy 4, 24, .inr (.inr (.inr (.inr g))))), ((ra 4), .inr (9, [.ref (rb 4), .int (nI ((xs 4).length))])), ((rb 4), .inl (cy 0, 60, .inl (ff 4))), ((ra 5), .inr (9, [.ref (rb 5), .int (nI ((xs 5).length))])), ((rb 5), .inl (cy 0, 60, .inl (ff 5))), ((ra 6), .inr (9, [.ref (rb 6), .int (nI ((xs 6).length))])), ((rb 6), .inl (cy 0, 60, .inl (ff 6))), ((ra 7), .inr (9, [.ref (rb 7), .int (nI ((xs 7).length))])), ((rb 7), .inl (cy 0, 60, .inl (ff 7))), ((ra 8), .inr (9, [.ref (rb 8), .int (nI ((xs 8).length))])), ((rb 8), .inl (cy 0, 60, .inl (ff 8))), ((ra 9), .inr (9, [.ref (rb 9), .int (nI ((xs 9).length))])), ((rb 9), .inl (cy 0, 60, .inl (ff 9))), ((ra 10), .inr (9, [.ref (rb 10), .int (nI ((xs 10).length))])), ((rb 10), .inl (cy 0, 60, .inl (ff 10))), ((ra 11), .inr (9, [.ref (rb 11), .int (nI ((xs 11).length))])), ((rb 11), .inl (cy 0, 60, .inl (ff 11))), ((ra 12), .inr (9, [.ref (rb 12), .int (nI ((xs 12).length))])), ((rb 12), .inl (cy 0, 60, .inl (ff 12))), ((ra 0), .inr (9, [.ref (rb 0), .int (nI ((xs 0).length))])), ((rb 0), .inl (cy 0, 60, .inl (ff 0))), ((ra 1), .inr (9, [.ref (rb 1), .int (nI ((xs 1).length))])), ((rb 1), .inl (cy 0, 60, .inl (ff 1))), ((ra 2), .inr (9, [.ref (rb 2), .int (nI ((xs 2).length))])), ((rb 2), .inl (cy 0, 60, .inl (ff 2)))]) [0, 1, 4, 5, 6, 7, 8, 9, 10, 11, 12, 13, 14, 15, 16, 17, 18, 19, 20, 21, 22, 23, 24, 25, 26, 27] rfl (by decide) (by decide) (Nat.le_refl _) (Nat.le_refl _) (fun v u hv => ?_)
  subst hv
  refine j_if_eq C (P := False) (by decide) (tgt := 32) (by decide) dX9_isSound_25 (fun ht => absurd ht (id)) (fun hq => ?_)
  refine j_iconst C (v := (nI 1)) (by decide +kernel) dX9_isSound_28 ?_
  refine j_goto C (tgt := 33) (by decide) dX9_isSound_29 ?_
  refine j_istore_n C (lo1 := [(1, .int (nI 1)), (2, .int (nI 3)), (0, .ref h)]) rfl (by decide) rfl dX9_isSound_33 ?_
  refine j_iinc C (v := (nI 4)) (lo1 := [(2, .int (nI 4)), (1, .int (nI 1)), (0, .ref h)]) 1 rfl (fx_inc 3 1) (by decide) rfl dX9_isSound_34 ?_
  refine j_goto C (tgt := 4) (by decide) dX9_isSound_37 ?_
  refine j_lo (lo1 := [(2, .int (nI 4)), (1, .int (nI 1)), (0, .ref h)]) [0, 1, 2] rfl ?_
  refine j_iload_n C rfl 0 rfl dX9_isSound_4 ?_
  refine j_aload_n C rfl 2 rfl dX9_isSound_5 ?_
  refine j_getf C (Cn := RX9) (T := TX9) (N := 18) fin_X9_isSound_RX9 0 rfl rfl 3 (by decide) (by decide +kernel) rfl dX9_isSound_6 ?_
  refine j_icmp_ge C (P := False) (by decide) (tgt := 40) (by decide) dX9_isSound_9 (fun ht => absurd ht (id)) (fun hq => ?_)
  refine j_iload_n C rfl 1 rfl dX9_isSound_12 ?_
  refine j_if_eq C (P := False) (by decide) (tgt := 32) (by decide) dX9_isSound_13 (fun ht => absurd ht (id)) (fun hq => ?_)
  refine j_aload_n C rfl 2 rfl dX9_isSound_16 ?_
  refine j_getf C (Cn := RX9) (T := TX9) (N := 18) fin_X9_isSound_RX9 0 rfl rfl 2 (by decide) (by decide +kernel) rfl dX9_isSound_17 ?_
  refine j_iload_n C rfl 0 rfl dX9_isSound_20 ?_
  refine j_aald C 1 4 rfl rfl (j := 4) (by omega) (by omega) (r := (ra 4)) (hg 4 (by decide)) dX9_isSound_21 ?_
  refine j_resi (k1 := 0) (n1 := 0) C (j_runV C (c_X7_isCancelled (by decide : 60 < 2 ^ 20) (hr 4 (by decide)) (h6 4 (by decide)) (hf 4 (by decide)) (hx 4 (by decide))) gX9_isSound_X7_isCancelled rfl hdV_X7_isCancelled ⟨Nat.le_of_ble_eq_true rfl, Nat.le_of_ble_eq_true rfl⟩ ⟨Nat.le_of_ble_eq_true rfl, Nat.le_of_ble_eq_true rfl⟩ 2 rfl rfl rfl [2, 3] rfl (by decide) rfl (Nat.le_of_ble_eq_true rfl) dX9_isSound_22) (wr := [(h, .inr (11, [.ref ty, .int tn, .ref aw, .int (nI 13), .ref (ad 4), .ref (ad 5), .ref (ad 6), .int (nI 0), .ref (ad 8), .int (nI 0), .ref dr, .ref se, .ref (ad 12), .ref (ad 13), .ref (ad 14), .ref (ad 15), .ref (ad 16), .ref (ad 17)])), (aw, .inl (cy 4, 24, .inr (.inr (.inr (.inr g))))), ((ra 5), .inr (9, [.ref (rb 5), .int (nI ((xs 5).length))])), ((rb 5), .inl (cy 0, 60, .inl (ff 5))), ((ra 6), .inr (9, [.ref (rb 6), .int (nI ((xs 6).length))])), ((rb 6), .inl (cy 0, 60, .inl (ff 6))), ((ra 7), .inr (9, [.ref (rb 7), .int (nI ((xs 7).length))])), ((rb 7), .inl (cy 0, 60, .inl (ff 7))), ((ra 8), .inr (9, [.ref (rb 8), .int (nI ((xs 8).length))])), ((rb 8), .inl (cy 0, 60, .inl (ff 8))), ((ra 9), .inr (9, [.ref (rb 9), .int (nI ((xs 9).length))])), ((rb 9), .inl (cy 0, 60, .inl (ff 9))), ((ra 10), .inr (9, [.ref (rb 10), .int (nI ((xs 10).length))])), ((rb 10), .inl (cy 0, 60, .inl (ff 10))), ((ra 11), .inr (9, [.ref (rb 11), .int (nI ((xs 11).length))])), ((rb 11), .inl (cy 0, 60, .inl (ff 11))), ((ra 12), .inr (9, [.ref (rb 12), .int (nI ((xs 12).length))])), ((rb 12), .inl (cy 0, 60, .inl (ff 12))), ((ra 0), .inr (9, [.ref (rb 0), .int (nI ((xs 0).length))])), ((rb 0), .inl (cy 0, 60, .inl (ff 0))), ((ra 1), .inr (9, [.ref (rb 1), .int (nI ((xs 1).length))])), ((rb 1), .inl (cy 0, 60, .inl (ff 1))), ((ra 2), .inr (9, [.ref (rb 2), .int (nI ((xs 2).length))])), ((rb 2), .inl (cy 0, 60, .inl (ff 2))), ((ra 3), .inr (9, [.ref (rb 3), .int (nI ((xs 3).length))])), ((rb 3), .inl (cy 0, 60, .inl (ff 3)))]) [0, 1, 4, 5, 6, 7, 8, 9, 10, 11, 12, 13, 14, 15, 16, 17, 18, 19, 20, 21, 22, 23, 24, 25, 26, 27] rfl (by decide) (by decide) (Nat.le_refl _) (Nat.le_refl _) (fun v u hv => ?_)
  subst hv
  refine j_if_eq C (P := False) (by decide) (tgt := 32) (by decide) dX9_isSound_25 (fun ht => absurd ht (id)) (fun hq => ?_)
  refine j_iconst C (v := (nI 1)) (by decide +kernel) dX9_isSound_28 ?_
  refine j_goto C (tgt := 33) (by decide) dX9_isSound_29 ?_
  refine j_istore_n C (lo1 := [(1, .int (nI 1)), (2, .int (nI 4)), (0, .ref h)]) rfl (by decide) rfl dX9_isSound_33 ?_
  refine j_iinc C (v := (nI 5)) (lo1 := [(2, .int (nI 5)), (1, .int (nI 1)), (0, .ref h)]) 1 rfl (fx_inc 4 1) (by decide) rfl dX9_isSound_34 ?_
  refine j_goto C (tgt := 4) (by decide) dX9_isSound_37 ?_
  refine j_lo (lo1 := [(2, .int (nI 5)), (1, .int (nI 1)), (0, .ref h)]) [0, 1, 2] rfl ?_
  refine j_iload_n C rfl 0 rfl dX9_isSound_4 ?_
  refine j_aload_n C rfl 2 rfl dX9_isSound_5 ?_
  refine j_getf C (Cn := RX9) (T := TX9) (N := 18) fin_X9_isSound_RX9 0 rfl rfl 3 (by decide) (by decide +kernel) rfl dX9_isSound_6 ?_
  refine j_icmp_ge C (P := False) (by decide) (tgt := 40) (by decide) dX9_isSound_9 (fun ht => absurd ht (id)) (fun hq => ?_)
  refine j_iload_n C rfl 1 rfl dX9_isSound_12 ?_
  refine j_if_eq C (P := False) (by decide) (tgt := 32) (by decide) dX9_isSound_13 (fun ht => absurd ht (id)) (fun hq => ?_)
  refine j_aload_n C rfl 2 rfl dX9_isSound_16 ?_
  refine j_getf C (Cn := RX9) (T := TX9) (N := 18) fin_X9_isSound_RX9 0 rfl rfl 2 (by decide) (by decide +kernel) rfl dX9_isSound_17 ?_
  refine j_iload_n C rfl 0 rfl dX9_isSound_20 ?_
  refine j_aald C 1 4 rfl rfl (j := 5) (by omega) (by omega) (r := (ra 5)) (hg 5 (by decide)) dX9_isSound_21 ?_
  refine j_resi (k1 := 0) (n1 := 0) C (j_runV C (c_X7_isCancelled (by decide : 60 < 2 ^ 20) (hr 5 (by decide)) (h6 5 (by decide)) (hf 5 (by decide)) (hx 5 (by decide))) gX9_isSound_X7_isCancelled rfl hdV_X7_isCancelled ⟨Nat.le_of_ble_eq_true rfl, Nat.le_of_ble_eq_true rfl⟩ ⟨Nat.le_of_ble_eq_true rfl, Nat.le_of_ble_eq_true rfl⟩ 2 rfl rfl rfl [2, 3] rfl (by decide) rfl (Nat.le_of_ble_eq_true rfl) dX9_isSound_22) (wr := [(h, .inr (11, [.ref ty, .int tn, .ref aw, .int (nI 13), .ref (ad 4), .ref (ad 5), .ref (ad 6), .int (nI 0), .ref (ad 8), .int (nI 0), .ref dr, .ref se, .ref (ad 12), .ref (ad 13), .ref (ad 14), .ref (ad 15), .ref (ad 16), .ref (ad 17)])), (aw, .inl (cy 4, 24, .inr (.inr (.inr (.inr g))))), ((ra 6), .inr (9, [.ref (rb 6), .int (nI ((xs 6).length))])), ((rb 6), .inl (cy 0, 60, .inl (ff 6))), ((ra 7), .inr (9, [.ref (rb 7), .int (nI ((xs 7).length))])), ((rb 7), .inl (cy 0, 60, .inl (ff 7))), ((ra 8), .inr (9, [.ref (rb 8), .int (nI ((xs 8).length))])), ((rb 8), .inl (cy 0, 60, .inl (ff 8))), ((ra 9), .inr (9, [.ref (rb 9), .int (nI ((xs 9).length))])), ((rb 9), .inl (cy 0, 60, .inl (ff 9))), ((ra 10), .inr (9, [.ref (rb 10), .int (nI ((xs 10).length))])), ((rb 10), .inl (cy 0, 60, .inl (ff 10))), ((ra 11), .inr (9, [.ref (rb 11), .int (nI ((xs 11).length))])), ((rb 11), .inl (cy 0, 60, .inl (ff 11))), ((ra 12), .inr (9, [.ref (rb 12), .int (nI ((xs 12).length))])), ((rb 12), .inl (cy 0, 60, .inl (ff 12))), ((ra 0), .inr (9, [.ref (rb 0), .int (nI ((xs 0).length))])), ((rb 0), .inl (cy 0, 60, .inl (ff 0))), ((ra 1), .inr (9, [.ref (rb 1), .int (nI ((xs 1).length))])), ((rb 1), .inl (cy 0, 60, .inl (ff 1))), ((ra 2), .inr (9, [.ref (rb 2), .int (nI ((xs 2).length))])), ((rb 2), .inl (cy 0, 60, .inl (ff 2))), ((ra 3), .inr (9, [.ref (rb 3), .int (nI ((xs 3).length))])), ((rb 3), .inl (cy 0, 60, .inl (ff 3))), ((ra 4), .inr (9, [.ref (rb 4), .int (nI ((xs 4).length))])), ((rb 4), .inl (cy 0, 60, .inl (ff 4)))]) [0, 1, 4, 5, 6, 7, 8, 9, 10, 11, 12, 13, 14, 15, 16, 17, 18, 19, 20, 21, 22, 23, 24, 25, 26, 27] rfl (by decide) (by decide) (Nat.le_refl _) (Nat.le_refl _) (fun v u hv => ?_)
  subst hv
  refine j_if_eq C (P := False) (by decide) (tgt := 32) (by decide) dX9_isSound_25 (fun ht => absurd ht (id)) (fun hq => ?_)
  refine j_iconst C (v := (nI 1)) (by decide +kernel) dX9_isSound_28 ?_
  refine j_goto C (tgt := 33) (by decide) dX9_isSound_29 ?_
  refine j_istore_n C (lo1 := [(1, .int (nI 1)), (2, .int (nI 5)), (0, .ref h)]) rfl (by decide) rfl dX9_isSound_33 ?_
  refine j_iinc C (v := (nI 6)) (lo1 := [(2, .int (nI 6)), (1, .int (nI 1)), (0, .ref h)]) 1 rfl (fx_inc 5 1) (by decide) rfl dX9_isSound_34 ?_
  refine j_goto C (tgt := 4) (by decide) dX9_isSound_37 ?_
  refine j_lo (lo1 := [(2, .int (nI 6)), (1, .int (nI 1)), (0, .ref h)]) [0, 1, 2] rfl ?_
  refine j_iload_n C rfl 0 rfl dX9_isSound_4 ?_
  refine j_aload_n C rfl 2 rfl dX9_isSound_5 ?_
  refine j_getf C (Cn := RX9) (T := TX9) (N := 18) fin_X9_isSound_RX9 0 rfl rfl 3 (by decide) (by decide +kernel) rfl dX9_isSound_6 ?_
  refine j_icmp_ge C (P := False) (by decide) (tgt := 40) (by decide) dX9_isSound_9 (fun ht => absurd ht (id)) (fun hq => ?_)
  refine j_iload_n C rfl 1 rfl dX9_isSound_12 ?_
  refine j_if_eq C (P := False) (by decide) (tgt := 32) (by decide) dX9_isSound_13 (fun ht => absurd ht (id)) (fun hq => ?_)
  refine j_aload_n C rfl 2 rfl dX9_isSound_16 ?_
  refine j_getf C (Cn := RX9) (T := TX9) (N := 18) fin_X9_isSound_RX9 0 rfl rfl 2 (by decide) (by decide +kernel) rfl dX9_isSound_17 ?_
  refine j_iload_n C rfl 0 rfl dX9_isSound_20 ?_
  refine j_aald C 1 4 rfl rfl (j := 6) (by omega) (by omega) (r := (ra 6)) (hg 6 (by decide)) dX9_isSound_21 ?_
  refine j_resi (k1 := 0) (n1 := 0) C (j_runV C (c_X7_isCancelled (by decide : 60 < 2 ^ 20) (hr 6 (by decide)) (h6 6 (by decide)) (hf 6 (by decide)) (hx 6 (by decide))) gX9_isSound_X7_isCancelled rfl hdV_X7_isCancelled ⟨Nat.le_of_ble_eq_true rfl, Nat.le_of_ble_eq_true rfl⟩ ⟨Nat.le_of_ble_eq_true rfl, Nat.le_of_ble_eq_true rfl⟩ 2 rfl rfl rfl [2, 3] rfl (by decide) rfl (Nat.le_of_ble_eq_true rfl) dX9_isSound_22) (wr := [(h, .inr (11, [.ref ty, .int tn, .ref aw, .int (nI 13), .ref (ad 4), .ref (ad 5), .ref (ad 6), .int (nI 0), .ref (ad 8), .int (nI 0), .ref dr, .ref se, .ref (ad 12), .ref (ad 13), .ref (ad 14), .ref (ad 15), .ref (ad 16), .ref (ad 17)])), (aw, .inl (cy 4, 24, .inr (.inr (.inr (.inr g))))), ((ra 7), .inr (9, [.ref (rb 7), .int (nI ((xs 7).length))])), ((rb 7), .inl (cy 0, 60, .inl (ff 7))), ((ra 8), .inr (9, [.ref (rb 8), .int (nI ((xs 8).length))])), ((rb 8), .inl (cy 0, 60, .inl (ff 8))), ((ra 9), .inr (9, [.ref (rb 9), .int (nI ((xs 9).length))])), ((rb 9), .inl (cy 0, 60, .inl (ff 9))), ((ra 10), .inr (9, [.ref (rb 10), .int (nI ((xs 10).length))])), ((rb 10), .inl (cy 0, 60, .inl (ff 10))), ((ra 11), .inr (9, [.ref (rb 11), .int (nI ((xs 11).length))])), ((rb 11), .inl (cy 0, 60, .inl (ff 11))), ((ra 12), .inr (9, [.ref (rb 12), .int (nI ((xs 12).length))])), ((rb 12), .inl (cy 0, 60, .inl (ff 12))), ((ra 0), .inr (9, [.ref (rb 0), .int (nI ((xs 0).length))])), ((rb 0), .inl (cy 0, 60, .inl (ff 0))), ((ra 1), .inr (9, [.ref (rb 1), .int (nI ((xs 1).length))])), ((rb 1), .inl (cy 0, 60, .inl (ff 1))), ((ra 2), .inr (9, [.ref (rb 2), .int (nI ((xs 2).length))])), ((rb 2), .inl (cy 0, 60, .inl (ff 2))), ((ra 3), .inr (9, [.ref (rb 3), .int (nI ((xs 3).length))])), ((rb 3), .inl (cy 0, 60, .inl (ff 3))), ((ra 4), .inr (9, [.ref (rb 4), .int (nI ((xs 4).length))])), ((rb 4), .inl (cy 0, 60, .inl (ff 4))), ((ra 5), .inr (9, [.ref (rb 5), .int (nI ((xs 5).length))])), ((rb 5), .inl (cy 0, 60, .inl (ff 5)))]) [0, 1, 4, 5, 6, 7, 8, 9, 10, 11, 12, 13, 14, 15, 16, 17, 18, 19, 20, 21, 22, 23, 24, 25, 26, 27] rfl (by decide) (by decide) (Nat.le_refl _) (Nat.le_refl _) (fun v u hv => ?_)
  subst hv
  refine j_if_eq C (P := False) (by decide) (tgt := 32) (by decide) dX9_isSound_25 (fun ht => absurd ht (id)) (fun hq => ?_)
  refine j_iconst C (v := (nI 1)) (by decide +kernel) dX9_isSound_28 ?_
  refine j_goto C (tgt := 33) (by decide) dX9_isSound_29 ?_
  refine j_istore_n C (lo1 := [(1, .int (nI 1)), (2, .int (nI 6)), (0, .ref h)]) rfl (by decide) rfl dX9_isSound_33 ?_
  refine j_iinc C (v := (nI 7)) (lo1 := [(2, .int (nI 7)), (1, .int (nI 1)), (0, .ref h)]) 1 rfl (fx_inc 6 1) (by decide) rfl dX9_isSound_34 ?_
  refine j_goto C (tgt := 4) (by decide) dX9_isSound_37 ?_
  refine j_lo (lo1 := [(2, .int (nI 7)), (1, .int (nI 1)), (0, .ref h)]) [0, 1, 2] rfl ?_
  refine j_iload_n C rfl 0 rfl dX9_isSound_4 ?_
  refine j_aload_n C rfl 2 rfl dX9_isSound_5 ?_
  refine j_getf C (Cn := RX9) (T := TX9) (N := 18) fin_X9_isSound_RX9 0 rfl rfl 3 (by decide) (by decide +kernel) rfl dX9_isSound_6 ?_
  refine j_icmp_ge C (P := False) (by decide) (tgt := 40) (by decide) dX9_isSound_9 (fun ht => absurd ht (id)) (fun hq => ?_)
  refine j_iload_n C rfl 1 rfl dX9_isSound_12 ?_
  refine j_if_eq C (P := False) (by decide) (tgt := 32) (by decide) dX9_isSound_13 (fun ht => absurd ht (id)) (fun hq => ?_)
  refine j_aload_n C rfl 2 rfl dX9_isSound_16 ?_
  refine j_getf C (Cn := RX9) (T := TX9) (N := 18) fin_X9_isSound_RX9 0 rfl rfl 2 (by decide) (by decide +kernel) rfl dX9_isSound_17 ?_
  refine j_iload_n C rfl 0 rfl dX9_isSound_20 ?_
  refine j_aald C 1 4 rfl rfl (j := 7) (by omega) (by omega) (r := (ra 7)) (hg 7 (by decide)) dX9_isSound_21 ?_
  refine j_resi (k1 := 0) (n1 := 0) C (j_runV C (c_X7_isCancelled (by decide : 60 < 2 ^ 20) (hr 7 (by decide)) (h6 7 (by decide)) (hf 7 (by decide)) (hx 7 (by decide))) gX9_isSound_X7_isCancelled rfl hdV_X7_isCancelled ⟨Nat.le_of_ble_eq_true rfl, Nat.le_of_ble_eq_true rfl⟩ ⟨Nat.le_of_ble_eq_true rfl, Nat.le_of_ble_eq_true rfl⟩ 2 rfl rfl rfl [2, 3] rfl (by decide) rfl (Nat.le_of_ble_eq_true rfl) dX9_isSound_22) (wr := [(h, .inr (11, [.ref ty, .int tn, .ref aw, .int (nI 13), .ref (ad 4), .ref (ad 5), .ref (ad 6), .int (nI 0), .ref (ad 8), .int (nI 0), .ref dr, .ref se, .ref (ad 12), .ref (ad 13), .ref (ad 14), .ref (ad 15), .ref (ad 16), .ref (ad 17)])), (aw, .inl (cy 4, 24, .inr (.inr (.inr (.inr g))))), ((ra 8), .inr (9, [.ref (rb 8), .int (nI ((xs 8).length))])), ((rb 8), .inl (cy 0, 60, .inl (ff 8))), ((ra 9), .inr (9, [.ref (rb 9), .int (nI ((xs 9).length))])), ((rb 9), .inl (cy 0, 60, .inl (ff 9))), ((ra 10), .inr (9, [.ref (rb 10), .int (nI ((xs 10).length))])), ((rb 10), .inl (cy 0, 60, .inl (ff 10))), ((ra 11), .inr (9, [.ref (rb 11), .int (nI ((xs 11).length))])), ((rb 11), .inl (cy 0, 60, .inl (ff 11))), ((ra 12), .inr (9, [.ref (rb 12), .int (nI ((xs 12).length))])), ((rb 12), .inl (cy 0, 60, .inl (ff 12))), ((ra 0), .inr (9, [.ref (rb 0), .int (nI ((xs 0).length))])), ((rb 0), .inl (cy 0, 60, .inl (ff 0))), ((ra 1), .inr (9, [.ref (rb 1), .int (nI ((xs 1).length))])), ((rb 1), .inl (cy 0, 60, .inl (ff 1))), ((ra 2), .inr (9, [.ref (rb 2), .int (nI ((xs 2).length))])), ((rb 2), .inl (cy 0, 60, .inl (ff 2))), ((ra 3), .inr (9, [.ref (rb 3), .int (nI ((xs 3).length))])), ((rb 3), .inl (cy 0, 60, .inl (ff 3))), ((ra 4), .inr (9, [.ref (rb 4), .int (nI ((xs 4).length))])), ((rb 4), .inl (cy 0, 60, .inl (ff 4))), ((ra 5), .inr (9, [.ref (rb 5), .int (nI ((xs 5).length))])), ((rb 5), .inl (cy 0, 60, .inl (ff 5))), ((ra 6), .inr (9, [.ref (rb 6), .int (nI ((xs 6).length))])), ((rb 6), .inl (cy 0, 60, .inl (ff 6)))]) [0, 1, 4, 5, 6, 7, 8, 9, 10, 11, 12, 13, 14, 15, 16, 17, 18, 19, 20, 21, 22, 23, 24, 25, 26, 27] rfl (by decide) (by decide) (Nat.le_refl _) (Nat.le_refl _) (fun v u hv => ?_)
  subst hv
  refine j_if_eq C (P := False) (by decide) (tgt := 32) (by decide) dX9_isSound_25 (fun ht => absurd ht (id)) (fun hq => ?_)
  refine j_iconst C (v := (nI 1)) (by decide +kernel) dX9_isSound_28 ?_
  refine j_goto C (tgt := 33) (by decide) dX9_isSound_29 ?_
  refine j_istore_n C (lo1 := [(1, .int (nI 1)), (2, .int (nI 7)), (0, .ref h)]) rfl (by decide) rfl dX9_isSound_33 ?_
  refine j_iinc C (v := (nI 8)) (lo1 := [(2, .int (nI 8)), (1, .int (nI 1)), (0, .ref h)]) 1 rfl (fx_inc 7 1) (by decide) rfl dX9_isSound_34 ?_
  refine j_goto C (tgt := 4) (by decide) dX9_isSound_37 ?_
  refine j_lo (lo1 := [(2, .int (nI 8)), (1, .int (nI 1)), (0, .ref h)]) [0, 1, 2] rfl ?_
  refine j_iload_n C rfl 0 rfl dX9_isSound_4 ?_
  refine j_aload_n C rfl 2 rfl dX9_isSound_5 ?_
  refine j_getf C (Cn := RX9) (T := TX9) (N := 18) fin_X9_isSound_RX9 0 rfl rfl 3 (by decide) (by decide +kernel) rfl dX9_isSound_6 ?_
  refine j_icmp_ge C (P := False) (by decide) (tgt := 40) (by decide) dX9_isSound_9 (fun ht => absurd ht (id)) (fun hq => ?_)
  refine j_iload_n C rfl 1 rfl dX9_isSound_12 ?_
  refine j_if_eq C (P := False) (by decide) (tgt := 32) (by decide) dX9_isSound_13 (fun ht => absurd ht (id)) (fun hq => ?_)
  refine j_aload_n C rfl 2 rfl dX9_isSound_16 ?_
  refine j_getf C (Cn := RX9) (T := TX9) (N := 18) fin_X9_isSound_RX9 0 rfl rfl 2 (by decide) (by decide +kernel) rfl dX9_isSound_17 ?_
  refine j_iload_n C rfl 0 rfl dX9_isSound_20 ?_
  refine j_aald C 1 4 rfl rfl (j := 8) (by omega) (by omega) (r := (ra 8)) (hg 8 (by decide)) dX9_isSound_21 ?_
  refine j_resi (k1 := 0) (n1 := 0) C (j_runV C (c_X7_isCancelled (by decide : 60 < 2 ^ 20) (hr 8 (by decide)) (h6 8 (by decide)) (hf 8 (by decide)) (hx 8 (by decide))) gX9_isSound_X7_isCancelled rfl hdV_X7_isCancelled ⟨Nat.le_of_ble_eq_true rfl, Nat.le_of_ble_eq_true rfl⟩ ⟨Nat.le_of_ble_eq_true rfl, Nat.le_of_ble_eq_true rfl⟩ 2 rfl rfl rfl [2, 3] rfl (by decide) rfl (Nat.le_of_ble_eq_true rfl) dX9_isSound_22) (wr := [(h, .inr (11, [.ref ty, .int tn, .ref aw, .int (nI 13), .ref (ad 4), .ref (ad 5), .ref (ad 6), .int (nI 0), .ref (ad 8), .int (nI 0), .ref dr, .ref se, .ref (ad 12), .ref (ad 13), .ref (ad 14), .ref (ad 15), .ref (ad 16), .ref (ad 17)])), (aw, .inl (cy 4, 24, .inr (.inr (.inr (.inr g))))), ((ra 9), .inr (9, [.ref (rb 9), .int (nI ((xs 9).length))])), ((rb 9), .inl (cy 0, 60, .inl (ff 9))), ((ra 10), .inr (9, [.ref (rb 10), .int (nI ((xs 10).length))])), ((rb 10), .inl (cy 0, 60, .inl (ff 10))), ((ra 11), .inr (9, [.ref (rb 11), .int (nI ((xs 11).length))])), ((rb 11), .inl (cy 0, 60, .inl (ff 11))), ((ra 12), .inr (9, [.ref (rb 12), .int (nI ((xs 12).length))])), ((rb 12), .inl (cy 0, 60, .inl (ff 12))), ((ra 0), .inr (9, [.ref (rb 0), .int (nI ((xs 0).length))])), ((rb 0), .inl (cy 0, 60, .inl (ff 0))), ((ra 1), .inr (9, [.ref (rb 1), .int (nI ((xs 1).length))])), ((rb 1), .inl (cy 0, 60, .inl (ff 1))), ((ra 2), .inr (9, [.ref (rb 2), .int (nI ((xs 2).length))])), ((rb 2), .inl (cy 0, 60, .inl (ff 2))), ((ra 3), .inr (9, [.ref (rb 3), .int (nI ((xs 3).length))])), ((rb 3), .inl (cy 0, 60, .inl (ff 3))), ((ra 4), .inr (9, [.ref (rb 4), .int (nI ((xs 4).length))])), ((rb 4), .inl (cy 0, 60, .inl (ff 4))), ((ra 5), .inr (9, [.ref (rb 5), .int (nI ((xs 5).length))])), ((rb 5), .inl (cy 0, 60, .inl (ff 5))), ((ra 6), .inr (9, [.ref (rb 6), .int (nI ((xs 6).length))])), ((rb 6), .inl (cy 0, 60, .inl (ff 6))), ((ra 7), .inr (9, [.ref (rb 7), .int (nI ((xs 7).length))])), ((rb 7), .inl (cy 0, 60, .inl (ff 7)))]) [0, 1, 4, 5, 6, 7, 8, 9, 10, 11, 12, 13, 14, 15, 16, 17, 18, 19, 20, 21, 22, 23, 24, 25, 26, 27] rfl (by decide) (by decide) (Nat.le_refl _) (Nat.le_refl _) (fun v u hv => ?_)
  subst hv
  refine j_if_eq C (P := False) (by decide) (tgt := 32) (by decide) dX9_isSound_25 (fun ht => absurd ht (id)) (fun hq => ?_)
  refine j_iconst C (v := (nI 1)) (by decide +kernel) dX9_isSound_28 ?_
  refine j_goto C (tgt := 33) (by decide) dX9_isSound_29 ?_
  refine j_istore_n C (lo1 := [(1, .int (nI 1)), (2, .int (nI 8)), (0, .ref h)]) rfl (by decide) rfl dX9_isSound_33 ?_
  refine j_iinc C (v := (nI 9)) (lo1 := [(2, .int (nI 9)), (1, .int (nI 1)), (0, .ref h)]) 1 rfl (fx_inc 8 1) (by decide) rfl dX9_isSound_34 ?_
  refine j_goto C (tgt := 4) (by decide) dX9_isSound_37 ?_
  refine j_lo (lo1 := [(2, .int (nI 9)), (1, .int (nI 1)), (0, .ref h)]) [0, 1, 2] rfl ?_
  refine j_iload_n C rfl 0 rfl dX9_isSound_4 ?_
  refine j_aload_n C rfl 2 rfl dX9_isSound_5 ?_
  refine j_getf C (Cn := RX9) (T := TX9) (N := 18) fin_X9_isSound_RX9 0 rfl rfl 3 (by decide) (by decide +kernel) rfl dX9_isSound_6 ?_
  refine j_icmp_ge C (P := False) (by decide) (tgt := 40) (by decide) dX9_isSound_9 (fun ht => absurd ht (id)) (fun hq => ?_)
  refine j_iload_n C rfl 1 rfl dX9_isSound_12 ?_
  refine j_if_eq C (P := False) (by decide) (tgt := 32) (by decide) dX9_isSound_13 (fun ht => absurd ht (id)) (fun hq => ?_)
  refine j_aload_n C rfl 2 rfl dX9_isSound_16 ?_
  refine j_getf C (Cn := RX9) (T := TX9) (N := 18) fin_X9_isSound_RX9 0 rfl rfl 2 (by decide) (by decide +kernel) rfl dX9_isSound_17 ?_
  refine j_iload_n C rfl 0 rfl dX9_isSound_20 ?_
  refine j_aald C 1 4 rfl rfl (j := 9) (by omega) (by omega) (r := (ra 9)) (hg 9 (by decide)) dX9_isSound_21 ?_
  refine j_resi (k1 := 0) (n1 := 0) C (j_runV C (c_X7_isCancelled (by decide : 60 < 2 ^ 20) (hr 9 (by decide)) (h6 9 (by decide)) (hf 9 (by decide)) (hx 9 (by decide))) gX9_isSound_X7_isCancelled rfl hdV_X7_isCancelled ⟨Nat.le_of_ble_eq_true rfl, Nat.le_of_ble_eq_true rfl⟩ ⟨Nat.le_of_ble_eq_true rfl, Nat.le_of_ble_eq_true rfl⟩ 2 rfl rfl rfl [2, 3] rfl (by decide) rfl (Nat.le_of_ble_eq_true rfl) dX9_isSound_22) (wr := [(h, .inr (11, [.ref ty, .int tn, .ref aw, .int (nI 13), .ref (ad 4), .ref (ad 5), .ref (ad 6), .int (nI 0), .ref (ad 8), .int (nI 0), .ref dr, .ref se, .ref (ad 12), .ref (ad 13), .ref (ad 14), .ref (ad 15), .ref (ad 16), .ref (ad 17)])), (aw, .inl (cy 4, 24, .inr (.inr (.inr (.inr g))))), ((ra 10), .inr (9, [.ref (rb 10), .int (nI ((xs 10).length))])), ((rb 10), .inl (cy 0, 60, .inl (ff 10))), ((ra 11), .inr (9, [.ref (rb 11), .int (nI ((xs 11).length))])), ((rb 11), .inl (cy 0, 60, .inl (ff 11))), ((ra 12), .inr (9, [.ref (rb 12), .int (nI ((xs 12).length))])), ((rb 12), .inl (cy 0, 60, .inl (ff 12))), ((ra 0), .inr (9, [.ref (rb 0), .int (nI ((xs 0).length))])), ((rb 0), .inl (cy 0, 60, .inl (ff 0))), ((ra 1), .inr (9, [.ref (rb 1), .int (nI ((xs 1).length))])), ((rb 1), .inl (cy 0, 60, .inl (ff 1))), ((ra 2), .inr (9, [.ref (rb 2), .int (nI ((xs 2).length))])), ((rb 2), .inl (cy 0, 60, .inl (ff 2))), ((ra 3), .inr (9, [.ref (rb 3), .int (nI ((xs 3).length))])), ((rb 3), .inl (cy 0, 60, .inl (ff 3))), ((ra 4), .inr (9, [.ref (rb 4), .int (nI ((xs 4).length))])), ((rb 4), .inl (cy 0, 60, .inl (ff 4))), ((ra 5), .inr (9, [.ref (rb 5), .int (nI ((xs 5).length))])), ((rb 5), .inl (cy 0, 60, .inl (ff 5))), ((ra 6), .inr (9, [.ref (rb 6), .int (nI ((xs 6).length))])), ((rb 6), .inl (cy 0, 60, .inl (ff 6))), ((ra 7), .inr (9, [.ref (rb 7), .int (nI ((xs 7).length))])), ((rb 7), .inl (cy 0, 60, .inl (ff 7))), ((ra 8), .inr (9, [.ref (rb 8), .int (nI ((xs 8).length))])), ((rb 8), .inl (cy 0, 60, .inl (ff 8)))]) [0, 1, 4, 5, 6, 7, 8, 9, 10, 11, 12, 13, 14, 15, 16, 17, 18, 19, 20, 21, 22, 23, 24, 25, 26, 27] rfl (by decide) (by decide) (Nat.le_refl _) (Nat.le_refl _) (fun v u hv => ?_)
  subst hv
  refine j_if_eq C (P := False) (by decide) (tgt := 32) (by decide) dX9_isSound_25 (fun ht => absurd ht (id)) (fun hq => ?_)
  refine j_iconst C (v := (nI 1)) (by decide +kernel) dX9_isSound_28 ?_
  refine j_goto C (tgt := 33) (by decide) dX9_isSound_29 ?_
  refine j_istore_n C (lo1 := [(1, .int (nI 1)), (2, .int (nI 9)), (0, .ref h)]) rfl (by decide) rfl dX9_isSound_33 ?_
  refine j_iinc C (v := (nI 10)) (lo1 := [(2, .int (nI 10)), (1, .int (nI 1)), (0, .ref h)]) 1 rfl (fx_inc 9 1) (by decide) rfl dX9_isSound_34 ?_
  refine j_goto C (tgt := 4) (by decide) dX9_isSound_37 ?_
  refine j_lo (lo1 := [(2, .int (nI 10)), (1, .int (nI 1)), (0, .ref h)]) [0, 1, 2] rfl ?_
  refine j_iload_n C rfl 0 rfl dX9_isSound_4 ?_
  refine j_aload_n C rfl 2 rfl dX9_isSound_5 ?_
  refine j_getf C (Cn := RX9) (T := TX9) (N := 18) fin_X9_isSound_RX9 0 rfl rfl 3 (by decide) (by decide +kernel) rfl dX9_isSound_6 ?_
  refine j_icmp_ge C (P := False) (by decide) (tgt := 40) (by decide) dX9_isSound_9 (fun ht => absurd ht (id)) (fun hq => ?_)
  refine j_iload_n C rfl 1 rfl dX9_isSound_12 ?_
  refine j_if_eq C (P := False) (by decide) (tgt := 32) (by decide) dX9_isSound_13 (fun ht => absurd ht (id)) (fun hq => ?_)
  refine j_aload_n C rfl 2 rfl dX9_isSound_16 ?_
  refine j_getf C (Cn := RX9) (T := TX9) (N := 18) fin_X9_isSound_RX9 0 rfl rfl 2 (by decide) (by decide +kernel) rfl dX9_isSound_17 ?_
  refine j_iload_n C rfl 0 rfl dX9_isSound_20 ?_
  refine j_aald C 1 4 rfl rfl (j := 10) (by omega) (by omega) (r := (ra 10)) (hg 10 (by decide)) dX9_isSound_21 ?_
  refine j_resi (k1 := 0) (n1 := 0) C (j_runV C (c_X7_isCancelled (by decide : 60 < 2 ^ 20) (hr 10 (by decide)) (h6 10 (by decide)) (hf 10 (by decide)) (hx 10 (by decide))) gX9_isSound_X7_isCancelled rfl hdV_X7_isCancelled ⟨Nat.le_of_ble_eq_true rfl, Nat.le_of_ble_eq_true rfl⟩ ⟨Nat.le_of_ble_eq_true rfl, Nat.le_of_ble_eq_true rfl⟩ 2 rfl rfl rfl [2, 3] rfl (by decide) rfl (Nat.le_of_ble_eq_true rfl) dX9_isSound_22) (wr := [(h, .inr (11, [.ref ty, .int tn, .ref aw, .int (nI 13), .ref (ad 4), .ref (ad 5), .ref (ad 6), .int (nI 0), .ref (ad 8), .int (nI 0), .ref dr, .ref se, .ref (ad 12), .ref (ad 13), .ref (ad 14), .ref (ad 15), .ref (ad 16), .ref (ad 17)])), (aw, .inl (cy 4, 24, .inr (.inr (.inr (.inr g))))), ((ra 11), .inr (9, [.ref (rb 11), .int (nI ((xs 11).length))])), ((rb 11), .inl (cy 0, 60, .inl (ff 11))), ((ra 12), .inr (9, [.ref (rb 12), .int (nI ((xs 12).length))])), ((rb 12), .inl (cy 0, 60, .inl (ff 12))), ((ra 0), .inr (9, [.ref (rb 0), .int (nI ((xs 0).length))])), ((rb 0), .inl (cy 0, 60, .inl (ff 0))), ((ra 1), .inr (9, [.ref (rb 1), .int (nI ((xs 1).length))])), ((rb 1), .inl (cy 0, 60, .inl (ff 1))), ((ra 2), .inr (9, [.ref (rb 2), .int (nI ((xs 2).length))])), ((rb 2), .inl (cy 0, 60, .inl (ff 2))), ((ra 3), .inr (9, [.ref (rb 3), .int (nI ((xs 3).length))])), ((rb 3), .inl (cy 0, 60, .inl (ff 3))), ((ra 4), .inr (9, [.ref (rb 4), .int (nI ((xs 4).length))])), ((rb 4), .inl (cy 0, 60, .inl (ff 4))), ((ra 5), .inr (9, [.ref (rb 5), .int (nI ((xs 5).length))])), ((rb 5), .inl (cy 0, 60, .inl (ff 5))), ((ra 6), .inr (9, [.ref (rb 6), .int (nI ((xs 6).length))])), ((rb 6), .inl (cy 0, 60, .inl (ff 6))), ((ra 7), .inr (9, [.ref (rb 7), .int (nI ((xs 7).length))])), ((rb 7), .inl (cy 0, 60, .inl (ff 7))), ((ra 8), .inr (9, [.ref (rb 8), .int (nI ((xs 8).length))])), ((rb 8), .inl (cy 0, 60, .inl (ff 8))), ((ra 9), .inr (9, [.ref (rb 9), .int (nI ((xs 9).length))])), ((rb 9), .inl (cy 0, 60, .inl (ff 9)))]) [0, 1, 4, 5, 6, 7, 8, 9, 10, 11, 12, 13, 14, 15, 16, 17, 18, 19, 20, 21, 22, 23, 24, 25, 26, 27] rfl (by decide) (by decide) (Nat.le_refl _) (Nat.le_refl _) (fun v u hv => ?_)
  subst hv
  refine j_if_eq C (P := False) (by decide) (tgt := 32) (by decide) dX9_isSound_25 (fun ht => absurd ht (id)) (fun hq => ?_)
  refine j_iconst C (v := (nI 1)) (by decide +kernel) dX9_isSound_28 ?_
  refine j_goto C (tgt := 33) (by decide) dX9_isSound_29 ?_
  refine j_istore_n C (lo1 := [(1, .int (nI 1)), (2, .int (nI 10)), (0, .ref h)]) rfl (by decide) rfl dX9_isSound_33 ?_
  refine j_iinc C (v := (nI 11)) (lo1 := [(2, .int (nI 11)), (1, .int (nI 1)), (0, .ref h)]) 1 rfl (fx_inc 10 1) (by decide) rfl dX9_isSound_34 ?_
  refine j_goto C (tgt := 4) (by decide) dX9_isSound_37 ?_
  refine j_lo (lo1 := [(2, .int (nI 11)), (1, .int (nI 1)), (0, .ref h)]) [0, 1, 2] rfl ?_
  refine j_iload_n C rfl 0 rfl dX9_isSound_4 ?_
  refine j_aload_n C rfl 2 rfl dX9_isSound_5 ?_
  refine j_getf C (Cn := RX9) (T := TX9) (N := 18) fin_X9_isSound_RX9 0 rfl rfl 3 (by decide) (by decide +kernel) rfl dX9_isSound_6 ?_
  refine j_icmp_ge C (P := False) (by decide) (tgt := 40) (by decide) dX9_isSound_9 (fun ht => absurd ht (id)) (fun hq => ?_)
  refine j_iload_n C rfl 1 rfl dX9_isSound_12 ?_
  refine j_if_eq C (P := False) (by decide) (tgt := 32) (by decide) dX9_isSound_13 (fun ht => absurd ht (id)) (fun hq => ?_)
  refine j_aload_n C rfl 2 rfl dX9_isSound_16 ?_
  refine j_getf C (Cn := RX9) (T := TX9) (N := 18) fin_X9_isSound_RX9 0 rfl rfl 2 (by decide) (by decide +kernel) rfl dX9_isSound_17 ?_
  refine j_iload_n C rfl 0 rfl dX9_isSound_20 ?_
  refine j_aald C 1 4 rfl rfl (j := 11) (by omega) (by omega) (r := (ra 11)) (hg 11 (by decide)) dX9_isSound_21 ?_
  refine j_resi (k1 := 0) (n1 := 0) C (j_runV C (c_X7_isCancelled (by decide : 60 < 2 ^ 20) (hr 11 (by decide)) (h6 11 (by decide)) (hf 11 (by decide)) (hx 11 (by decide))) gX9_isSound_X7_isCancelled rfl hdV_X7_isCancelled ⟨Nat.le_of_ble_eq_true rfl, Nat.le_of_ble_eq_true rfl⟩ ⟨Nat.le_of_ble_eq_true rfl, Nat.le_of_ble_eq_true rfl⟩ 2 rfl rfl rfl [2, 3] rfl (by decide) rfl (Nat.le_of_ble_eq_true rfl) dX9_isSound_22) (wr := [(h, .inr (11, [.ref ty, .int tn, .ref aw, .int (nI 13), .ref (ad 4), .ref (ad 5), .ref (ad 6), .int (nI 0), .ref (ad 8), .int (nI 0), .ref dr, .ref se, .ref (ad 12), .ref (ad 13), .ref (ad 14), .ref (ad 15), .ref (ad 16), .ref (ad 17)])), (aw, .inl (cy 4, 24, .inr (.inr (.inr (.inr g))))), ((ra 12), .inr (9, [.ref (rb 12), .int (nI ((xs 12).length))])), ((rb 12), .inl (cy 0, 60, .inl (ff 12))), ((ra 0), .inr (9, [.ref (rb 0), .int (nI ((xs 0).length))])), ((rb 0), .inl (cy 0, 60, .inl (ff 0))), ((ra 1), .inr (9, [.ref (rb 1), .int (nI ((xs 1).length))])), ((rb 1), .inl (cy 0, 60, .inl (ff 1))), ((ra 2), .inr (9, [.ref (rb 2), .int (nI ((xs 2).length))])), ((rb 2), .inl (cy 0, 60, .inl (ff 2))), ((ra 3), .inr (9, [.ref (rb 3), .int (nI ((xs 3).length))])), ((rb 3), .inl (cy 0, 60, .inl (ff 3))), ((ra 4), .inr (9, [.ref (rb 4), .int (nI ((xs 4).length))])), ((rb 4), .inl (cy 0, 60, .inl (ff 4))), ((ra 5), .inr (9, [.ref (rb 5), .int (nI ((xs 5).length))])), ((rb 5), .inl (cy 0, 60, .inl (ff 5))), ((ra 6), .inr (9, [.ref (rb 6), .int (nI ((xs 6).length))])), ((rb 6), .inl (cy 0, 60, .inl (ff 6))), ((ra 7), .inr (9, [.ref (rb 7), .int (nI ((xs 7).length))])), ((rb 7), .inl (cy 0, 60, .inl (ff 7))), ((ra 8), .inr (9, [.ref (rb 8), .int (nI ((xs 8).length))])), ((rb 8), .inl (cy 0, 60, .inl (ff 8))), ((ra 9), .inr (9, [.ref (rb 9), .int (nI ((xs 9).length))])), ((rb 9), .inl (cy 0, 60, .inl (ff 9))), ((ra 10), .inr (9, [.ref (rb 10), .int (nI ((xs 10).length))])), ((rb 10), .inl (cy 0, 60, .inl (ff 10)))]) [0, 1, 4, 5, 6, 7, 8, 9, 10, 11, 12, 13, 14, 15, 16, 17, 18, 19, 20, 21, 22, 23, 24, 25, 26, 27] rfl (by decide) (by decide) (Nat.le_refl _) (Nat.le_refl _) (fun v u hv => ?_)
  subst hv
  refine j_if_eq C (P := False) (by decide) (tgt := 32) (by decide) dX9_isSound_25 (fun ht => absurd ht (id)) (fun hq => ?_)
  refine j_iconst C (v := (nI 1)) (by decide +kernel) dX9_isSound_28 ?_
  refine j_goto C (tgt := 33) (by decide) dX9_isSound_29 ?_
  refine j_istore_n C (lo1 := [(1, .int (nI 1)), (2, .int (nI 11)), (0, .ref h)]) rfl (by decide) rfl dX9_isSound_33 ?_
  refine j_iinc C (v := (nI 12)) (lo1 := [(2, .int (nI 12)), (1, .int (nI 1)), (0, .ref h)]) 1 rfl (fx_inc 11 1) (by decide) rfl dX9_isSound_34 ?_
  refine j_goto C (tgt := 4) (by decide) dX9_isSound_37 ?_
  refine j_lo (lo1 := [(2, .int (nI 12)), (1, .int (nI 1)), (0, .ref h)]) [0, 1, 2] rfl ?_
  refine j_iload_n C rfl 0 rfl dX9_isSound_4 ?_
  refine j_aload_n C rfl 2 rfl dX9_isSound_5 ?_
  refine j_getf C (Cn := RX9) (T := TX9) (N := 18) fin_X9_isSound_RX9 0 rfl rfl 3 (by decide) (by decide +kernel) rfl dX9_isSound_6 ?_
  refine j_icmp_ge C (P := False) (by decide) (tgt := 40) (by decide) dX9_isSound_9 (fun ht => absurd ht (id)) (fun hq => ?_)
  refine j_iload_n C rfl 1 rfl dX9_isSound_12 ?_
  refine j_if_eq C (P := False) (by decide) (tgt := 32) (by decide) dX9_isSound_13 (fun ht => absurd ht (id)) (fun hq => ?_)
  refine j_aload_n C rfl 2 rfl dX9_isSound_16 ?_
  refine j_getf C (Cn := RX9) (T := TX9) (N := 18) fin_X9_isSound_RX9 0 rfl rfl 2 (by decide) (by decide +kernel) rfl dX9_isSound_17 ?_
  refine j_iload_n C rfl 0 rfl dX9_isSound_20 ?_
  refine j_aald C 1 4 rfl rfl (j := 12) (by omega) (by omega) (r := (ra 12)) (hg 12 (by decide)) dX9_isSound_21 ?_
  refine j_resi (k1 := 0) (n1 := 0) C (j_runV C (c_X7_isCancelled (by decide : 60 < 2 ^ 20) (hr 12 (by decide)) (h6 12 (by decide)) (hf 12 (by decide)) (hx 12 (by decide))) gX9_isSound_X7_isCancelled rfl hdV_X7_isCancelled ⟨Nat.le_of_ble_eq_true rfl, Nat.le_of_ble_eq_true rfl⟩ ⟨Nat.le_of_ble_eq_true rfl, Nat.le_of_ble_eq_true rfl⟩ 2 rfl rfl rfl [2, 3] rfl (by decide) rfl (Nat.le_of_ble_eq_true rfl) dX9_isSound_22) (wr := [(h, .inr (11, [.ref ty, .int tn, .ref aw, .int (nI 13), .ref (ad 4), .ref (ad 5), .ref (ad 6), .int (nI 0), .ref (ad 8), .int (nI 0), .ref dr, .ref se, .ref (ad 12), .ref (ad 13), .ref (ad 14), .ref (ad 15), .ref (ad 16), .ref (ad 17)])), (aw, .inl (cy 4, 24, .inr (.inr (.inr (.inr g))))), ((ra 0), .inr (9, [.ref (rb 0), .int (nI ((xs 0).length))])), ((rb 0), .inl (cy 0, 60, .inl (ff 0))), ((ra 1), .inr (9, [.ref (rb 1), .int (nI ((xs 1).length))])), ((rb 1), .inl (cy 0, 60, .inl (ff 1))), ((ra 2), .inr (9, [.ref (rb 2), .int (nI ((xs 2).length))])), ((rb 2), .inl (cy 0, 60, .inl (ff 2))), ((ra 3), .inr (9, [.ref (rb 3), .int (nI ((xs 3).length))])), ((rb 3), .inl (cy 0, 60, .inl (ff 3))), ((ra 4), .inr (9, [.ref (rb 4), .int (nI ((xs 4).length))])), ((rb 4), .inl (cy 0, 60, .inl (ff 4))), ((ra 5), .inr (9, [.ref (rb 5), .int (nI ((xs 5).length))])), ((rb 5), .inl (cy 0, 60, .inl (ff 5))), ((ra 6), .inr (9, [.ref (rb 6), .int (nI ((xs 6).length))])), ((rb 6), .inl (cy 0, 60, .inl (ff 6))), ((ra 7), .inr (9, [.ref (rb 7), .int (nI ((xs 7).length))])), ((rb 7), .inl (cy 0, 60, .inl (ff 7))), ((ra 8), .inr (9, [.ref (rb 8), .int (nI ((xs 8).length))])), ((rb 8), .inl (cy 0, 60, .inl (ff 8))), ((ra 9), .inr (9, [.ref (rb 9), .int (nI ((xs 9).length))])), ((rb 9), .inl (cy 0, 60, .inl (ff 9))), ((ra 10), .inr (9, [.ref (rb 10), .int (nI ((xs 10).length))])), ((rb 10), .inl (cy 0, 60, .inl (ff 10))), ((ra 11), .inr (9, [.ref (rb 11), .int (nI ((xs 11).length))])), ((rb 11), .inl (cy 0, 60, .inl (ff 11)))]) [0, 1, 4, 5, 6, 7, 8, 9, 10, 11, 12, 13, 14, 15, 16, 17, 18, 19, 20, 21, 22, 23, 24, 25, 26, 27] rfl (by decide) (by decide) (Nat.le_refl _) (Nat.le_refl _) (fun v u hv => ?_)
  subst hv
  refine j_if_eq C (P := False) (by decide) (tgt := 32) (by decide) dX9_isSound_25 (fun ht => absurd ht (id)) (fun hq => ?_)
  refine j_iconst C (v := (nI 1)) (by decide +kernel) dX9_isSound_28 ?_
  refine j_goto C (tgt := 33) (by decide) dX9_isSound_29 ?_
  refine j_istore_n C (lo1 := [(1, .int (nI 1)), (2, .int (nI 12)), (0, .ref h)]) rfl (by decide) rfl dX9_isSound_33 ?_
  refine j_iinc C (v := (nI 13)) (lo1 := [(2, .int (nI 13)), (1, .int (nI 1)), (0, .ref h)]) 1 rfl (fx_inc 12 1) (by decide) rfl dX9_isSound_34 ?_
  refine j_goto C (tgt := 4) (by decide) dX9_isSound_37 ?_
  refine j_lo (lo1 := [(2, .int (nI 13)), (1, .int (nI 1)), (0, .ref h)]) [0, 1, 2] rfl ?_
  refine j_iload_n C rfl 0 rfl dX9_isSound_4 ?_
  refine j_aload_n C rfl 2 rfl dX9_isSound_5 ?_
  refine j_getf C (Cn := RX9) (T := TX9) (N := 18) fin_X9_isSound_RX9 0 rfl rfl 3 (by decide) (by decide +kernel) rfl dX9_isSound_6 ?_
  refine j_icmp_ge C (P := True) (by decide) (tgt := 40) (by decide) dX9_isSound_9 (fun ht => ?_) (fun hq => absurd hq (fun z => z trivial))
  refine j_iconst C (v := (nI 0)) (by decide +kernel) dX9_isSound_40 ?_
  refine j_istore_n C (lo1 := [(2, .int (nI 0)), (1, .int (nI 1)), (0, .ref h)]) rfl (by decide) rfl dX9_isSound_41 ?_
  refine j_iload_n C rfl 0 rfl dX9_isSound_42 ?_
  refine j_aload_n C rfl 2 rfl dX9_isSound_43 ?_
  refine j_getf C (Cn := RX9) (T := TX9) (N := 18) fin_X9_isSound_RX9 0 rfl rfl 7 (by decide) (by decide +kernel) rfl dX9_isSound_44 ?_
  refine j_icmp_ge C (P := True) (by decide) (tgt := 78) (by decide) dX9_isSound_47 (fun ht => ?_) (fun hq => absurd hq (fun z => z trivial))
  refine j_iconst C (v := (nI 0)) (by decide +kernel) dX9_isSound_78 ?_
  refine j_istore_n C (lo1 := [(2, .int (nI 0)), (1, .int (nI 1)), (0, .ref h)]) rfl (by decide) rfl dX9_isSound_79 ?_
  refine j_iload_n C rfl 0 rfl dX9_isSound_80 ?_
  refine j_aload_n C rfl 2 rfl dX9_isSound_81 ?_
  refine j_getf C (Cn := RX9) (T := TX9) (N := 18) fin_X9_isSound_RX9 0 rfl rfl 9 (by decide) (by decide +kernel) rfl dX9_isSound_82 ?_
  refine j_icmp_ge C (P := True) (by decide) (tgt := 134) (by decide) dX9_isSound_85 (fun ht => ?_) (fun hq => absurd hq (fun z => z trivial))
  refine j_iload_n C rfl 1 rfl dX9_isSound_134 ?_
  exact j_iret C rfl (rfl) (()) (rfl) [0, 1, 2, 3, 4, 5, 6, 7, 8, 9, 10, 11, 12, 13, 14, 15, 16, 17, 18, 19, 20, 21, 22, 23, 24, 25, 26, 27] rfl (by decide) (Nat.le_of_ble_eq_true rfl) (Nat.le_of_ble_eq_true rfl) dX9_isSound_135
