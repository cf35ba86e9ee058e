set_option maxRecDepth 100000 in
theorem fin_X1_init_RX1 : ∀ w ∈ u_ws RX1 TX1 7, w ∈ wsX1_init := by decide +kernel
set_option maxRecDepth 100000 in
theorem fin_X1_init_RX7 : ∀ w ∈ u_ws RX7 TX7 2, w ∈ wsX1_init := by decide +kernel
theorem hdS_X7_init : yX7_init.cls ≠ "java/lang/invoke/MethodHandle" ∧ yX7_init.cls ≠ "java/lang/invoke/VarHandle" ∧ (parseMethodDescriptor yX7_init.desc).map (fun d => d.parameters.length) = some 1 := by decide +kernel
set_option maxHeartbeats 4000000 in
set_option maxRecDepth 100000 in
/-- Graph() -/
theorem c_X1_init {l : Launch} {G : va_G} {cy : Nat → ClassId} {h : Nat} : Kv l yX1_init wsX1_init G cy [.ref h] [(h, .inr (3, [.null, .null, .null, .null, .null, .int (nI 0), .int (nI 0)]))] (fun (_ : Unit) => True) (fun _ => []) 2 6 482 41 := by
  refine Kv_of (cc := cX1_init) (nL := 1) (by decide) rfl (Nat.le_of_ble_eq_true rfl) ?_
  intro p e s m args below meth c A C hnm
  refine j_lo (lo1 := [(0, .ref h)]) [0] rfl ?_
  refine j_aload_n C rfl 0 rfl dX1_init_0 ?_
  refine j_oinit C (by decide +kernel) (by decide +kernel) (by decide +kernel) (Nat.le_of_ble_eq_true rfl) (Nat.le_of_ble_eq_true rfl) dX1_init_1 ?_
  refine j_aload_n C rfl 0 rfl dX1_init_4 ?_
  refine j_sipush C (v := (nI 240)) (by decide +kernel) dX1_init_5 ?_
  refine j_newa C (at9 := .int) 1 (by decide +kernel) rfl rfl (N := 240) (a0 := (240, .inl (fun _ => 0))) (k1 := 1) (n1 := 240) (fun _ => rfl) (nI_pos (Nat.le_of_ble_eq_true rfl)) (nI_clamp (Nat.le_of_ble_eq_true rfl)) (Nat.le_of_ble_eq_true rfl) (Nat.le_of_ble_eq_true rfl) (Nat.le_of_ble_eq_true rfl) (Nat.le_refl _) (Nat.le_refl _) dX1_init_8 (fun q1 => ?_)
  refine j_putF C (Cn := RX1) (T := TX1) (ty := tyX1) (N := 7) (ws1 := [(h, .inr (3, [.ref q1, .null, .null, .null, .null, .int (nI 0), .int (nI 0)])), (q1, .inl (cy 1, 240, .inl (fun _ => 0)))]) fin_X1_init_RX1 tyX1_ok nmX1 0 rfl rfl 0 (by decide) (by decide +kernel) rfl hnm rfl rfl rfl (Nat.le_of_ble_eq_true rfl) rfl dX1_init_10 ?_
  refine j_ws (ws1 := [(h, .inr (3, [.ref q1, .null, .null, .null, .null, .int (nI 0), .int (nI 0)]))]) [0] rfl (by decide) ?_
  refine j_aload_n C rfl 0 rfl dX1_init_13 ?_
  refine j_bipush C (v := (nI 40)) (by decide +kernel) dX1_init_14 ?_
  refine j_newa C (at9 := .int) 1 (by decide +kernel) rfl rfl (N := 40) (a0 := (40, .inl (fun _ => 0))) (k1 := 2) (n1 := 280) (fun _ => rfl) (nI_pos (Nat.le_of_ble_eq_true rfl)) (nI_clamp (Nat.le_of_ble_eq_true rfl)) (Nat.le_of_ble_eq_true rfl) (Nat.le_of_ble_eq_true rfl) (Nat.le_of_ble_eq_true rfl) (Nat.le_refl _) (Nat.le_refl _) dX1_init_16 (fun q2 => ?_)
  refine j_putF C (Cn := RX1) (T := TX1) (ty := tyX1) (N := 7) (ws1 := [(h, .inr (3, [.ref q1, .ref q2, .null, .null, .null, .int (nI 0), .int (nI 0)])), (q2, .inl (cy 1, 40, .inl (fun _ => 0)))]) fin_X1_init_RX1 tyX1_ok nmX1 0 rfl rfl 1 (by decide) (by decide +kernel) rfl hnm rfl rfl rfl (Nat.le_of_ble_eq_true rfl) rfl dX1_init_18 ?_
  refine j_ws (ws1 := [(h, .inr (3, [.ref q1, .ref q2, .null, .null, .null, .int (nI 0), .int (nI 0)]))]) [0] rfl (by decide) ?_
  refine j_aload_n C rfl 0 rfl dX1_init_21 ?_
  refine j_bipush C (v := (nI 40)) (by decide +kernel) dX1_init_22 ?_
  refine j_newa C (at9 := .int) 1 (by decide +kernel) rfl rfl (N := 40) (a0 := (40, .inl (fun _ => 0))) (k1 := 3) (n1 := 320) (fun _ => rfl) (nI_pos (Nat.le_of_ble_eq_true rfl)) (nI_clamp (Nat.le_of_ble_eq_true rfl)) (Nat.le_of_ble_eq_true rfl) (Nat.le_of_ble_eq_true rfl) (Nat.le_of_ble_eq_true rfl) (Nat.le_refl _) (Nat.le_refl _) dX1_init_24 (fun q3 => ?_)
  refine j_putF C (Cn := RX1) (T := TX1) (ty := tyX1) (N := 7) (ws1 := [(h, .inr (3, [.ref q1, .ref q2, .ref q3, .null, .null, .int (nI 0), .int (nI 0)])), (q3, .inl (cy 1, 40, .inl (fun _ => 0)))]) fin_X1_init_RX1 tyX1_ok nmX1 0 rfl rfl 2 (by decide) (by decide +kernel) rfl hnm rfl rfl rfl (Nat.le_of_ble_eq_true rfl) rfl dX1_init_26 ?_
  refine j_ws (ws1 := [(h, .inr (3, [.ref q1, .ref q2, .ref q3, .null, .null, .int (nI 0), .int (nI 0)]))]) [0] rfl (by decide) ?_
  refine j_aload_n C rfl 0 rfl dX1_init_29 ?_
  refine j_bipush C (v := (nI 120)) (by decide +kernel) dX1_init_30 ?_
  refine j_newa C (at9 := .int) 1 (by decide +kernel) rfl rfl (N := 120) (a0 := (120, .inl (fun _ => 0))) (k1 := 4) (n1 := 440) (fun _ => rfl) (nI_pos (Nat.le_of_ble_eq_true rfl)) (nI_clamp (Nat.le_of_ble_eq_true rfl)) (Nat.le_of_ble_eq_true rfl) (Nat.le_of_ble_eq_true rfl) (Nat.le_of_ble_eq_true rfl) (Nat.le_refl _) (Nat.le_refl _) dX1_init_32 (fun q4 => ?_)
  refine j_putF C (Cn := RX1) (T := TX1) (ty := tyX1) (N := 7) (ws1 := [(h, .inr (3, [.ref q1, .ref q2, .ref q3, .ref q4, .null, .int (nI 0), .int (nI 0)])), (q4, .inl (cy 1, 120, .inl (fun _ => 0)))]) fin_X1_init_RX1 tyX1_ok nmX1 0 rfl rfl 3 (by decide) (by decide +kernel) rfl hnm rfl rfl rfl (Nat.le_of_ble_eq_true rfl) rfl dX1_init_34 ?_
  refine j_ws (ws1 := [(h, .inr (3, [.ref q1, .ref q2, .ref q3, .ref q4, .null, .int (nI 0), .int (nI 0)]))]) [0] rfl (by decide) ?_
  refine j_aload_n C rfl 0 rfl dX1_init_37 ?_
  refine j_new C (Cn := RX7) (T := TX7) (ty := tyX7) (N := 2) (ci := 9) (fs := [.null, .int (nI 0)]) (k1 := 5) (n1 := 442) fin_X1_init_RX7 tyX7_ok (by decide +kernel) (by decide +kernel) (by decide +kernel) rfl (fun j hj => by rcases (show j = 0 ∨ j = 1 by omega) with rfl | rfl <;> rfl) (Nat.le_of_ble_eq_true rfl) (Nat.le_of_ble_eq_true rfl) (Nat.le_refl _) (Nat.le_refl _) dX1_init_38 (fun q5 => ?_)
  refine j_dup C rfl dX1_init_41 ?_
  refine j_bipush C (v := (nI 40)) (by decide +kernel) dX1_init_42 ?_
  refine j_resv (k1 := 6) (n1 := 482) C (j_runI C (c_X7_init (R := 40) (Nat.le_of_ble_eq_true rfl) (Nat.le_of_ble_eq_true rfl)) gX1_init_X7_init rfl (by decide +kernel) (by decide +kernel) (by decide +kernel) rfl hdS_X7_init ⟨Nat.le_of_ble_eq_true rfl, Nat.le_of_ble_eq_true rfl⟩ ⟨Nat.le_of_ble_eq_true rfl, Nat.le_of_ble_eq_true rfl⟩ [1] rfl (by decide) rfl (Nat.le_of_ble_eq_true rfl) dX1_init_44) (wr := [(h, .inr (3, [.ref q1, .ref q2, .ref q3, .ref q4, .null, .int (nI 0), .int (nI 0)]))]) [0] rfl (by decide) (by decide) (Nat.le_refl _) (Nat.le_refl _) (fun q5l _ => ?_)
  refine j_putF C (Cn := RX1) (T := TX1) (ty := tyX1) (N := 7) (ws1 := [(h, .inr (3, [.ref q1, .ref q2, .ref q3, .ref q4, .ref q5, .int (nI 0), .int (nI 0)])), (q5, .inr (9, [.ref q5l, .int (nI 0)])), (q5l, .inl (cy 0, 40, .inl (fun _ => 0)))]) fin_X1_init_RX1 tyX1_ok nmX1 0 rfl rfl 4 (by decide) (by decide +kernel) rfl hnm rfl rfl rfl (Nat.le_of_ble_eq_true rfl) rfl dX1_init_47 ?_
  refine j_ws (ws1 := [(h, .inr (3, [.ref q1, .ref q2, .ref q3, .ref q4, .ref q5, .int (nI 0), .int (nI 0)]))]) [0] rfl (by decide) ?_
  refine j_ws (ws1 := []) [] rfl (by decide) ?_
  exact j_vret C (()) (trivial) [] rfl (by decide) (Nat.le_of_ble_eq_true rfl) (Nat.le_of_ble_eq_true rfl) dX1_init_50
set_option maxRecDepth 100000 in
theorem fin_X5_init_RX5 : ∀ w ∈ u_ws RX5 TX5 9, w ∈ wsX5_init := by decide +kernel
set_option maxHeartbeats 4000000 in
set_option maxRecDepth 100000 in
/-- Net() -/
theorem c_X5_init {l : Launch} {G : va_G} {cy : Nat → ClassId} {h : Nat} : Kv l yX5_init wsX5_init G cy [.ref h] [(h, .inr (7, [.null, .null, .null, .null, .null, .null, .null, .int (nI 0), .int (nI 0)]))] (fun (_ : Unit) => True) (fun _ => []) 1 7 33640 20 := by
  refine Kv_of (cc := cX5_init) (nL := 1) (by decide) rfl (Nat.le_of_ble_eq_true rfl) ?_
  intro p e s m args below meth c A C hnm
  refine j_lo (lo1 := [(0, .ref h)]) [0] rfl ?_
  refine j_aload_n C rfl 0 rfl dX5_init_0 ?_
  refine j_oinit C (by decide +kernel) (by decide +kernel) (by decide +kernel) (Nat.le_of_ble_eq_true rfl) (Nat.le_of_ble_eq_true rfl) dX5_init_1 ?_
  refine j_aload_n C rfl 0 rfl dX5_init_4 ?_
  refine j_sipush C (v := (nI 9600)) (by decide +kernel) dX5_init_5 ?_
  refine j_newa C (at9 := .int) 1 (by decide +kernel) rfl rfl (N := 9600) (a0 := (9600, .inl (fun _ => 0))) (k1 := 1) (n1 := 9600) (fun _ => rfl) (nI_pos (Nat.le_of_ble_eq_true rfl)) (nI_clamp (Nat.le_of_ble_eq_true rfl)) (Nat.le_of_ble_eq_true rfl) (Nat.le_of_ble_eq_true rfl) (Nat.le_of_ble_eq_true rfl) (Nat.le_refl _) (Nat.le_refl _) dX5_init_8 (fun q1 => ?_)
  refine j_putF C (Cn := RX5) (T := TX5) (ty := tyX5) (N := 9) (ws1 := [(h, .inr (7, [.ref q1, .null, .null, .null, .null, .null, .null, .int (nI 0), .int (nI 0)])), (q1, .inl (cy 1, 9600, .inl (fun _ => 0)))]) fin_X5_init_RX5 tyX5_ok nmX5 0 rfl rfl 0 (by decide) (by decide +kernel) rfl hnm rfl rfl rfl (Nat.le_of_ble_eq_true rfl) rfl dX5_init_10 ?_
  refine j_ws (ws1 := [(h, .inr (7, [.ref q1, .null, .null, .null, .null, .null, .null, .int (nI 0), .int (nI 0)]))]) [0] rfl (by decide) ?_
  refine j_aload_n C rfl 0 rfl dX5_init_13 ?_
  refine j_sipush C (v := (nI 1600)) (by decide +kernel) dX5_init_14 ?_
  refine j_newa C (at9 := .int) 1 (by decide +kernel) rfl rfl (N := 1600) (a0 := (1600, .inl (fun _ => 0))) (k1 := 2) (n1 := 11200) (fun _ => rfl) (nI_pos (Nat.le_of_ble_eq_true rfl)) (nI_clamp (Nat.le_of_ble_eq_true rfl)) (Nat.le_of_ble_eq_true rfl) (Nat.le_of_ble_eq_true rfl) (Nat.le_of_ble_eq_true rfl) (Nat.le_refl _) (Nat.le_refl _) dX5_init_17 (fun q2 => ?_)
  refine j_putF C (Cn := RX5) (T := TX5) (ty := tyX5) (N := 9) (ws1 := [(h, .inr (7, [.ref q1, .ref q2, .null, .null, .null, .null, .null, .int (nI 0), .int (nI 0)])), (q2, .inl (cy 1, 1600, .inl (fun _ => 0)))]) fin_X5_init_RX5 tyX5_ok nmX5 0 rfl rfl 1 (by decide) (by decide +kernel) rfl hnm rfl rfl rfl (Nat.le_of_ble_eq_true rfl) rfl dX5_init_19 ?_
  refine j_ws (ws1 := [(h, .inr (7, [.ref q1, .ref q2, .null, .null, .null, .null, .null, .int (nI 0), .int (nI 0)]))]) [0] rfl (by decide) ?_
  refine j_aload_n C rfl 0 rfl dX5_init_22 ?_
  refine j_sipush C (v := (nI 1600)) (by decide +kernel) dX5_init_23 ?_
  refine j_newa C (at9 := .int) 1 (by decide +kernel) rfl rfl (N := 1600) (a0 := (1600, .inl (fun _ => 0))) (k1 := 3) (n1 := 12800) (fun _ => rfl) (nI_pos (Nat.le_of_ble_eq_true rfl)) (nI_clamp (Nat.le_of_ble_eq_true rfl)) (Nat.le_of_ble_eq_true rfl) (Nat.le_of_ble_eq_true rfl) (Nat.le_of_ble_eq_true rfl) (Nat.le_refl _) (Nat.le_refl _) dX5_init_26 (fun q3 => ?_)
  refine j_putF C (Cn := RX5) (T := TX5) (ty := tyX5) (N := 9) (ws1 := [(h, .inr (7, [.ref q1, .ref q2, .ref q3, .null, .null, .null, .null, .int (nI 0), .int (nI 0)])), (q3, .inl (cy 1, 1600, .inl (fun _ => 0)))]) fin_X5_init_RX5 tyX5_ok nmX5 0 rfl rfl 2 (by decide) (by decide +kernel) rfl hnm rfl rfl rfl (Nat.le_of_ble_eq_true rfl) rfl dX5_init_28 ?_
  refine j_ws (ws1 := [(h, .inr (7, [.ref q1, .ref q2, .ref q3, .null, .null, .null, .null, .int (nI 0), .int (nI 0)]))]) [0] rfl (by decide) ?_
  refine j_aload_n C rfl 0 rfl dX5_init_31 ?_
  refine j_sipush C (v := (nI 1600)) (by decide +kernel) dX5_init_32 ?_
  refine j_newa C (at9 := .int) 1 (by decide +kernel) rfl rfl (N := 1600) (a0 := (1600, .inl (fun _ => 0))) (k1 := 4) (n1 := 14400) (fun _ => rfl) (nI_pos (Nat.le_of_ble_eq_true rfl)) (nI_clamp (Nat.le_of_ble_eq_true rfl)) (Nat.le_of_ble_eq_true rfl) (Nat.le_of_ble_eq_true rfl) (Nat.le_of_ble_eq_true rfl) (Nat.le_refl _) (Nat.le_refl _) dX5_init_35 (fun q4 => ?_)
  refine j_putF C (Cn := RX5) (T := TX5) (ty := tyX5) (N := 9) (ws1 := [(h, .inr (7, [.ref q1, .ref q2, .ref q3, .ref q4, .null, .null, .null, .int (nI 0), .int (nI 0)])), (q4, .inl (cy 1, 1600, .inl (fun _ => 0)))]) fin_X5_init_RX5 tyX5_ok nmX5 0 rfl rfl 3 (by decide) (by decide +kernel) rfl hnm rfl rfl rfl (Nat.le_of_ble_eq_true rfl) rfl dX5_init_37 ?_
  refine j_ws (ws1 := [(h, .inr (7, [.ref q1, .ref q2, .ref q3, .ref q4, .null, .null, .null, .int (nI 0), .int (nI 0)]))]) [0] rfl (by decide) ?_
  refine j_aload_n C rfl 0 rfl dX5_init_40 ?_
  refine j_bipush C (v := (nI 40)) (by decide +kernel) dX5_init_41 ?_
  refine j_newa C (at9 := .int) 1 (by decide +kernel) rfl rfl (N := 40) (a0 := (40, .inl (fun _ => 0))) (k1 := 5) (n1 := 14440) (fun _ => rfl) (nI_pos (Nat.le_of_ble_eq_true rfl)) (nI_clamp (Nat.le_of_ble_eq_true rfl)) (Nat.le_of_ble_eq_true rfl) (Nat.le_of_ble_eq_true rfl) (Nat.le_of_ble_eq_true rfl) (Nat.le_refl _) (Nat.le_refl _) dX5_init_43 (fun q5 => ?_)
  refine j_putF C (Cn := RX5) (T := TX5) (ty := tyX5) (N := 9) (ws1 := [(h, .inr (7, [.ref q1, .ref q2, .ref q3, .ref q4, .ref q5, .null, .null, .int (nI 0), .int (nI 0)])), (q5, .inl (cy 1, 40, .inl (fun _ => 0)))]) fin_X5_init_RX5 tyX5_ok nmX5 0 rfl rfl 4 (by decide) (by decide +kernel) rfl hnm rfl rfl rfl (Nat.le_of_ble_eq_true rfl) rfl dX5_init_45 ?_
  refine j_ws (ws1 := [(h, .inr (7, [.ref q1, .ref q2, .ref q3, .ref q4, .ref q5, .null, .null, .int (nI 0), .int (nI 0)]))]) [0] rfl (by decide) ?_
  refine j_aload_n C rfl 0 rfl dX5_init_48 ?_
  refine j_sipush C (v := (nI 9600)) (by decide +kernel) dX5_init_49 ?_
  refine j_newa C (at9 := .int) 1 (by decide +kernel) rfl rfl (N := 9600) (a0 := (9600, .inl (fun _ => 0))) (k1 := 6) (n1 := 24040) (fun _ => rfl) (nI_pos (Nat.le_of_ble_eq_true rfl)) (nI_clamp (Nat.le_of_ble_eq_true rfl)) (Nat.le_of_ble_eq_true rfl) (Nat.le_of_ble_eq_true rfl) (Nat.le_of_ble_eq_true rfl) (Nat.le_refl _) (Nat.le_refl _) dX5_init_52 (fun q6 => ?_)
  refine j_putF C (Cn := RX5) (T := TX5) (ty := tyX5) (N := 9) (ws1 := [(h, .inr (7, [.ref q1, .ref q2, .ref q3, .ref q4, .ref q5, .ref q6, .null, .int (nI 0), .int (nI 0)])), (q6, .inl (cy 1, 9600, .inl (fun _ => 0)))]) fin_X5_init_RX5 tyX5_ok nmX5 0 rfl rfl 5 (by decide) (by decide +kernel) rfl hnm rfl rfl rfl (Nat.le_of_ble_eq_true rfl) rfl dX5_init_54 ?_
  refine j_ws (ws1 := [(h, .inr (7, [.ref q1, .ref q2, .ref q3, .ref q4, .ref q5, .ref q6, .null, .int (nI 0), .int (nI 0)]))]) [0] rfl (by decide) ?_
  refine j_aload_n C rfl 0 rfl dX5_init_57 ?_
  refine j_sipush C (v := (nI 9600)) (by decide +kernel) dX5_init_58 ?_
  refine j_newa C (at9 := .int) 1 (by decide +kernel) rfl rfl (N := 9600) (a0 := (9600, .inl (fun _ => 0))) (k1 := 7) (n1 := 33640) (fun _ => rfl) (nI_pos (Nat.le_of_ble_eq_true rfl)) (nI_clamp (Nat.le_of_ble_eq_true rfl)) (Nat.le_of_ble_eq_true rfl) (Nat.le_of_ble_eq_true rfl) (Nat.le_of_ble_eq_true rfl) (Nat.le_refl _) (Nat.le_refl _) dX5_init_61 (fun q7 => ?_)
  refine j_putF C (Cn := RX5) (T := TX5) (ty := tyX5) (N := 9) (ws1 := [(h, .inr (7, [.ref q1, .ref q2, .ref q3, .ref q4, .ref q5, .ref q6, .ref q7, .int (nI 0), .int (nI 0)])), (q7, .inl (cy 1, 9600, .inl (fun _ => 0)))]) fin_X5_init_RX5 tyX5_ok nmX5 0 rfl rfl 6 (by decide) (by decide +kernel) rfl hnm rfl rfl rfl (Nat.le_of_ble_eq_true rfl) rfl dX5_init_63 ?_
  refine j_ws (ws1 := [(h, .inr (7, [.ref q1, .ref q2, .ref q3, .ref q4, .ref q5, .ref q6, .ref q7, .int (nI 0), .int (nI 0)]))]) [0] rfl (by decide) ?_
  refine j_ws (ws1 := []) [] rfl (by decide) ?_
  exact j_vret C (()) (trivial) [] rfl (by decide) (Nat.le_of_ble_eq_true rfl) (Nat.le_of_ble_eq_true rfl) dX5_init_66
set_option maxRecDepth 100000 in
theorem fin_X6_init_RX6 : ∀ w ∈ u_ws RX6 TX6 2, w ∈ wsX6_init := by decide +kernel
set_option maxHeartbeats 4000000 in
set_option maxRecDepth 100000 in
/-- Paths() -/
theorem c_X6_init {l : Launch} {G : va_G} {cy : Nat → ClassId} {h : Nat} : Kv l yX6_init wsX6_init G cy [.ref h] [(h, .inr (8, [.null, .null]))] (fun (_ : Unit) => True) (fun _ => []) 1 2 480 20 := by
  refine Kv_of (cc := cX6_init) (nL := 1) (by decide) rfl (Nat.le_of_ble_eq_true rfl) ?_
  intro p e s m args below meth c A C hnm
  refine j_lo (lo1 := [(0, .ref h)]) [0] rfl ?_
  refine j_aload_n C rfl 0 rfl dX6_init_0 ?_
  refine j_oinit C (by decide +kernel) (by decide +kernel) (by decide +kernel) (Nat.le_of_ble_eq_true rfl) (Nat.le_of_ble_eq_true rfl) dX6_init_1 ?_
  refine j_aload_n C rfl 0 rfl dX6_init_4 ?_
  refine j_sipush C (v := (nI 240)) (by decide +kernel) dX6_init_5 ?_
  refine j_newa C (at9 := .long) 3 (by decide +kernel) rfl rfl (N := 240) (a0 := (240, .inr (.inl (fun _ => 0)))) (k1 := 1) (n1 := 240) (fun _ => rfl) (nI_pos (Nat.le_of_ble_eq_true rfl)) (nI_clamp (Nat.le_of_ble_eq_true rfl)) (Nat.le_of_ble_eq_true rfl) (Nat.le_of_ble_eq_true rfl) (Nat.le_of_ble_eq_true rfl) (Nat.le_refl _) (Nat.le_refl _) dX6_init_8 (fun q1 => ?_)
  refine j_putf C (Cn := RX6) (T := TX6) (ty := tyX6) (N := 2) (ws1 := [(h, .inr (8, [.ref q1, .null])), (q1, .inl (cy 3, 240, .inr (.inl (fun _ => 0))))]) fin_X6_init_RX6 tyX6_ok nmX6 0 rfl rfl 0 (by decide) (by decide +kernel) rfl rfl rfl (Nat.le_of_ble_eq_true rfl) rfl dX6_init_10 ?_
  refine j_ws (ws1 := [(h, .inr (8, [.ref q1, .null]))]) [0] rfl (by decide) ?_
  refine j_aload_n C rfl 0 rfl dX6_init_13 ?_
  refine j_sipush C (v := (nI 240)) (by decide +kernel) dX6_init_14 ?_
  refine j_newa C (at9 := .long) 3 (by decide +kernel) rfl rfl (N := 240) (a0 := (240, .inr (.inl (fun _ => 0)))) (k1 := 2) (n1 := 480) (fun _ => rfl) (nI_pos (Nat.le_of_ble_eq_true rfl)) (nI_clamp (Nat.le_of_ble_eq_true rfl)) (Nat.le_of_ble_eq_true rfl) (Nat.le_of_ble_eq_true rfl) (Nat.le_of_ble_eq_true rfl) (Nat.le_refl _) (Nat.le_refl _) dX6_init_17 (fun q2 => ?_)
  refine j_putf C (Cn := RX6) (T := TX6) (ty := tyX6) (N := 2) (ws1 := [(h, .inr (8, [.ref q1, .ref q2])), (q2, .inl (cy 3, 240, .inr (.inl (fun _ => 0))))]) fin_X6_init_RX6 tyX6_ok nmX6 0 rfl rfl 1 (by decide) (by decide +kernel) rfl rfl rfl (Nat.le_of_ble_eq_true rfl) rfl dX6_init_19 ?_
  refine j_ws (ws1 := [(h, .inr (8, [.ref q1, .ref q2]))]) [0] rfl (by decide) ?_
  refine j_ws (ws1 := []) [] rfl (by decide) ?_
  exact j_vret C (()) (trivial) [] rfl (by decide) (Nat.le_of_ble_eq_true rfl) (Nat.le_of_ble_eq_true rfl) dX6_init_22
set_option maxRecDepth 100000 in
theorem fin_X8_init_RX7 : ∀ w ∈ u_ws RX7 TX7 2, w ∈ wsX8_init := by decide +kernel
set_option maxRecDepth 100000 in
theorem fin_X8_init_RX8 : ∀ w ∈ u_ws RX8 TX8 6, w ∈ wsX8_init := by decide +kernel
set_option maxHeartbeats 4000000 in
set_option maxRecDepth 100000 in
/-- Shortener() -/
theorem c_X8_init {l : Launch} {G : va_G} {cy : Nat → ClassId} {h : Nat} : Kv l yX8_init wsX8_init G cy [.ref h] [(h, .inr (10, [.null, .null, .null, .int (nI 0), .int (nI 0), .int (nI 0)]))] (fun (_ : Unit) => True) (fun _ => []) 2 5 280 41 := by
  refine Kv_of (cc := cX8_init) (nL := 1) (by decide) rfl (Nat.le_of_ble_eq_true rfl) ?_
  intro p e s m args below meth c A C hnm
  refine j_lo (lo1 := [(0, .ref h)]) [0] rfl ?_
  refine j_aload_n C rfl 0 rfl dX8_init_0 ?_
  refine j_oinit C (by decide +kernel) (by decide +kernel) (by decide +kernel) (Nat.le_of_ble_eq_true rfl) (Nat.le_of_ble_eq_true rfl) dX8_init_1 ?_
  refine j_aload_n C rfl 0 rfl dX8_init_4 ?_
  refine j_new C (Cn := RX7) (T := TX7) (ty := tyX7) (N := 2) (ci := 9) (fs := [.null, .int (nI 0)]) (k1 := 1) (n1 := 2) fin_X8_init_RX7 tyX7_ok (by decide +kernel) (by decide +kernel) (by decide +kernel) rfl (fun j hj => by rcases (show j = 0 ∨ j = 1 by omega) with rfl | rfl <;> rfl) (Nat.le_of_ble_eq_true rfl) (Nat.le_of_ble_eq_true rfl) (Nat.le_refl _) (Nat.le_refl _) dX8_init_5 (fun q1 => ?_)
  refine j_dup C rfl dX8_init_8 ?_
  refine j_sipush C (v := (nI 180)) (by decide +kernel) dX8_init_9 ?_
  refine j_resv (k1 := 2) (n1 := 182) C (j_runI C (c_X7_init (R := 180) (Nat.le_of_ble_eq_true rfl) (Nat.le_of_ble_eq_true rfl)) gX8_init_X7_init rfl (by decide +kernel) (by decide +kernel) (by decide +kernel) rfl hdS_X7_init ⟨Nat.le_of_ble_eq_true rfl, Nat.le_of_ble_eq_true rfl⟩ ⟨Nat.le_of_ble_eq_true rfl, Nat.le_of_ble_eq_true rfl⟩ [1] rfl (by decide) rfl (Nat.le_of_ble_eq_true rfl) dX8_init_12) (wr := [(h, .inr (10, [.null, .null, .null, .int (nI 0), .int (nI 0), .int (nI 0)]))]) [0] rfl (by decide) (by decide) (Nat.le_refl _) (Nat.le_refl _) (fun q1l _ => ?_)
  refine j_putF C (Cn := RX8) (T := TX8) (ty := tyX8) (N := 6) (ws1 := [(h, .inr (10, [.ref q1, .null, .null, .int (nI 0), .int (nI 0), .int (nI 0)])), (q1, .inr (9, [.ref q1l, .int (nI 0)])), (q1l, .inl (cy 0, 180, .inl (fun _ => 0)))]) fin_X8_init_RX8 tyX8_ok nmX8 0 rfl rfl 0 (by decide) (by decide +kernel) rfl hnm rfl rfl rfl (Nat.le_of_ble_eq_true rfl) rfl dX8_init_15 ?_
  refine j_ws (ws1 := [(h, .inr (10, [.ref q1, .null, .null, .int (nI 0), .int (nI 0), .int (nI 0)]))]) [0] rfl (by decide) ?_
  refine j_aload_n C rfl 0 rfl dX8_init_18 ?_
  refine j_new C (Cn := RX7) (T := TX7) (ty := tyX7) (N := 2) (ci := 9) (fs := [.null, .int (nI 0)]) (k1 := 3) (n1 := 184) fin_X8_init_RX7 tyX7_ok (by decide +kernel) (by decide +kernel) (by decide +kernel) rfl (fun j hj => by rcases (show j = 0 ∨ j = 1 by omega) with rfl | rfl <;> rfl) (Nat.le_of_ble_eq_true rfl) (Nat.le_of_ble_eq_true rfl) (Nat.le_refl _) (Nat.le_refl _) dX8_init_19 (fun q2 => ?_)
  refine j_dup C rfl dX8_init_22 ?_
  refine j_bipush C (v := (nI 60)) (by decide +kernel) dX8_init_23 ?_
  refine j_resv (k1 := 4) (n1 := 244) C (j_runI C (c_X7_init (R := 60) (Nat.le_of_ble_eq_true rfl) (Nat.le_of_ble_eq_true rfl)) gX8_init_X7_init rfl (by decide +kernel) (by decide +kernel) (by decide +kernel) rfl hdS_X7_init ⟨Nat.le_of_ble_eq_true rfl, Nat.le_of_ble_eq_true rfl⟩ ⟨Nat.le_of_ble_eq_true rfl, Nat.le_of_ble_eq_true rfl⟩ [1] rfl (by decide) rfl (Nat.le_of_ble_eq_true rfl) dX8_init_25) (wr := [(h, .inr (10, [.ref q1, .null, .null, .int (nI 0), .int (nI 0), .int (nI 0)]))]) [0] rfl (by decide) (by decide) (Nat.le_refl _) (Nat.le_refl _) (fun q2l _ => ?_)
  refine j_putF C (Cn := RX8) (T := TX8) (ty := tyX8) (N := 6) (ws1 := [(h, .inr (10, [.ref q1, .ref q2, .null, .int (nI 0), .int (nI 0), .int (nI 0)])), (q2, .inr (9, [.ref q2l, .int (nI 0)])), (q2l, .inl (cy 0, 60, .inl (fun _ => 0)))]) fin_X8_init_RX8 tyX8_ok nmX8 0 rfl rfl 1 (by decide) (by decide +kernel) rfl hnm rfl rfl rfl (Nat.le_of_ble_eq_true rfl) rfl dX8_init_28 ?_
  refine j_ws (ws1 := [(h, .inr (10, [.ref q1, .ref q2, .null, .int (nI 0), .int (nI 0), .int (nI 0)]))]) [0] rfl (by decide) ?_
  refine j_aload_n C rfl 0 rfl dX8_init_31 ?_
  refine j_bipush C (v := (nI 36)) (by decide +kernel) dX8_init_32 ?_
  refine j_newa C (at9 := .int) 1 (by decide +kernel) rfl rfl (N := 36) (a0 := (36, .inl (fun _ => 0))) (k1 := 5) (n1 := 280) (fun _ => rfl) (nI_pos (Nat.le_of_ble_eq_true rfl)) (nI_clamp (Nat.le_of_ble_eq_true rfl)) (Nat.le_of_ble_eq_true rfl) (Nat.le_of_ble_eq_true rfl) (Nat.le_of_ble_eq_true rfl) (Nat.le_refl _) (Nat.le_refl _) dX8_init_34 (fun q3 => ?_)
  refine j_putF C (Cn := RX8) (T := TX8) (ty := tyX8) (N := 6) (ws1 := [(h, .inr (10, [.ref q1, .ref q2, .ref q3, .int (nI 0), .int (nI 0), .int (nI 0)])), (q3, .inl (cy 1, 36, .inl (fun _ => 0)))]) fin_X8_init_RX8 tyX8_ok nmX8 0 rfl rfl 2 (by decide) (by decide +kernel) rfl hnm rfl rfl rfl (Nat.le_of_ble_eq_true rfl) rfl dX8_init_36 ?_
  refine j_ws (ws1 := [(h, .inr (10, [.ref q1, .ref q2, .ref q3, .int (nI 0), .int (nI 0), .int (nI 0)]))]) [0] rfl (by decide) ?_
  refine j_ws (ws1 := []) [] rfl (by decide) ?_
  exact j_vret C (()) (trivial) [] rfl (by decide) (Nat.le_of_ble_eq_true rfl) (Nat.le_of_ble_eq_true rfl) dX8_init_39
set_option maxRecDepth 100000 in
theorem fin_X0_init_RX0 : ∀ w ∈ u_ws RX0 TX0 4, w ∈ wsX0_init := by decide +kernel
set_option maxRecDepth 100000 in
theorem fin_X0_init_RX1 : ∀ w ∈ u_ws RX1 TX1 7, w ∈ wsX0_init := by decide +kernel
theorem hdS_X1_init : yX1_init.cls ≠ "java/lang/invoke/MethodHandle" ∧ yX1_init.cls ≠ "java/lang/invoke/VarHandle" ∧ (parseMethodDescriptor yX1_init.desc).map (fun d => d.parameters.length) = some 0 := by decide +kernel
set_option maxHeartbeats 4000000 in
set_option maxRecDepth 100000 in
/-- Fitter() -/
theorem c_X0_init {l : Launch} {G : va_G} {cy : Nat → ClassId} {h : Nat} : Kv l yX0_init wsX0_init G cy [.ref h] [(h, .inr (2, [.null, .null, .null, .null]))] (fun (_ : Unit) => True) (fun _ => []) 3 16 1058 61 := by
  refine Kv_of (cc := cX0_init) (nL := 1) (by decide) rfl (Nat.le_of_ble_eq_true rfl) ?_
  intro p e s m args below meth c A C hnm
  refine j_lo (lo1 := [(0, .ref h)]) [0] rfl ?_
  refine j_aload_n C rfl 0 rfl dX0_init_0 ?_
  refine j_oinit C (by decide +kernel) (by decide +kernel) (by decide +kernel) (Nat.le_of_ble_eq_true rfl) (Nat.le_of_ble_eq_true rfl) dX0_init_1 ?_
  refine j_aload_n C rfl 0 rfl dX0_init_4 ?_
  refine j_new C (Cn := RX1) (T := TX1) (ty := tyX1) (N := 7) (ci := 3) (fs := [.null, .null, .null, .null, .null, .int (nI 0), .int (nI 0)]) (k1 := 1) (n1 := 7) fin_X0_init_RX1 tyX1_ok (by decide +kernel) (by decide +kernel) (by decide +kernel) rfl (fun j hj => by rcases (show j = 0 ∨ j = 1 ∨ j = 2 ∨ j = 3 ∨ j = 4 ∨ j = 5 ∨ j = 6 by omega) with rfl | rfl | rfl | rfl | rfl | rfl | rfl <;> rfl) (Nat.le_of_ble_eq_true rfl) (Nat.le_of_ble_eq_true rfl) (Nat.le_refl _) (Nat.le_refl _) dX0_init_5 (fun q1 => ?_)
  refine j_dup C rfl dX0_init_8 ?_
  refine j_resv (k1 := 7) (n1 := 489) C (j_runN (host := "Foldrose") C (c_X1_init) gX0_init_X1_init_n11 rfl (by decide +kernel) (C.2.2.2.2.2.2.2.2.2.2.2.2.2.1 (RX0, 11, yX1_init) (by decide +kernel)) (by decide +kernel) rfl hdS_X1_init ⟨Nat.le_of_ble_eq_true rfl, Nat.le_of_ble_eq_true rfl⟩ ⟨Nat.le_of_ble_eq_true rfl, Nat.le_of_ble_eq_true rfl⟩ [1] rfl (by decide) rfl (Nat.le_of_ble_eq_true rfl) dX0_init_9) (wr := [(h, .inr (2, [.null, .null, .null, .null]))]) [0] rfl (by decide) (by decide) (Nat.le_refl _) (Nat.le_refl _) (fun u _ => ?_)
  refine j_putF C (Cn := RX0) (T := TX0) (ty := tyX0) (N := 4) (ws1 := [(h, .inr (2, [.ref q1, .null, .null, .null]))]) fin_X0_init_RX0 tyX0_ok nmX0 0 rfl rfl 0 (by decide) (by decide +kernel) rfl hnm rfl rfl rfl (Nat.le_of_ble_eq_true rfl) rfl dX0_init_12 ?_
  refine j_ws (ws1 := [(h, .inr (2, [.ref q1, .null, .null, .null]))]) [0] rfl (by decide) ?_
  refine j_aload_n C rfl 0 rfl dX0_init_15 ?_
  refine j_new C (Cn := RX1) (T := TX1) (ty := tyX1) (N := 7) (ci := 3) (fs := [.null, .null, .null, .null, .null, .int (nI 0), .int (nI 0)]) (k1 := 8) (n1 := 496) fin_X0_init_RX1 tyX1_ok (by decide +kernel) (by decide +kernel) (by decide +kernel) rfl (fun j hj => by rcases (show j = 0 ∨ j = 1 ∨ j = 2 ∨ j = 3 ∨ j = 4 ∨ j = 5 ∨ j = 6 by omega) with rfl | rfl | rfl | rfl | rfl | rfl | rfl <;> rfl) (Nat.le_of_ble_eq_true rfl) (Nat.le_of_ble_eq_true rfl) (Nat.le_refl _) (Nat.le_refl _) dX0_init_16 (fun q2 => ?_)
  refine j_dup C rfl dX0_init_19 ?_
  refine j_resv (k1 := 14) (n1 := 978) C (j_runN (host := "Foldrose") C (c_X1_init) gX0_init_X1_init_n11 rfl (by decide +kernel) (C.2.2.2.2.2.2.2.2.2.2.2.2.2.1 (RX0, 11, yX1_init) (by decide +kernel)) (by decide +kernel) rfl hdS_X1_init ⟨Nat.le_of_ble_eq_true rfl, Nat.le_of_ble_eq_true rfl⟩ ⟨Nat.le_of_ble_eq_true rfl, Nat.le_of_ble_eq_true rfl⟩ [1] rfl (by decide) rfl (Nat.le_of_ble_eq_true rfl) dX0_init_20) (wr := [(h, .inr (2, [.ref q1, .null, .null, .null]))]) [0] rfl (by decide) (by decide) (Nat.le_refl _) (Nat.le_refl _) (fun u _ => ?_)
  refine j_putF C (Cn := RX0) (T := TX0) (ty := tyX0) (N := 4) (ws1 := [(h, .inr (2, [.ref q1, .ref q2, .null, .null]))]) fin_X0_init_RX0 tyX0_ok nmX0 0 rfl rfl 1 (by decide) (by decide +kernel) rfl hnm rfl rfl rfl (Nat.le_of_ble_eq_true rfl) rfl dX0_init_23 ?_
  refine j_ws (ws1 := [(h, .inr (2, [.ref q1, .ref q2, .null, .null]))]) [0] rfl (by decide) ?_
  refine j_aload_n C rfl 0 rfl dX0_init_26 ?_
  refine j_bipush C (v := (nI 40)) (by decide +kernel) dX0_init_27 ?_
  refine j_newa C (at9 := .int) 1 (by decide +kernel) rfl rfl (N := 40) (a0 := (40, .inl (fun _ => 0))) (k1 := 15) (n1 := 1018) (fun _ => rfl) (nI_pos (Nat.le_of_ble_eq_true rfl)) (nI_clamp (Nat.le_of_ble_eq_true rfl)) (Nat.le_of_ble_eq_true rfl) (Nat.le_of_ble_eq_true rfl) (Nat.le_of_ble_eq_true rfl) (Nat.le_refl _) (Nat.le_refl _) dX0_init_29 (fun q3 => ?_)
  refine j_putF C (Cn := RX0) (T := TX0) (ty := tyX0) (N := 4) (ws1 := [(h, .inr (2, [.ref q1, .ref q2, .ref q3, .null])), (q3, .inl (cy 1, 40, .inl (fun _ => 0)))]) fin_X0_init_RX0 tyX0_ok nmX0 0 rfl rfl 2 (by decide) (by decide +kernel) rfl hnm rfl rfl rfl (Nat.le_of_ble_eq_true rfl) rfl dX0_init_31 ?_
  refine j_ws (ws1 := [(h, .inr (2, [.ref q1, .ref q2, .ref q3, .null]))]) [0] rfl (by decide) ?_
  refine j_aload_n C rfl 0 rfl dX0_init_34 ?_
  refine j_bipush C (v := (nI 40)) (by decide +kernel) dX0_init_35 ?_
  refine j_newa C (at9 := .int) 1 (by decide +kernel) rfl rfl (N := 40) (a0 := (40, .inl (fun _ => 0))) (k1 := 16) (n1 := 1058) (fun _ => rfl) (nI_pos (Nat.le_of_ble_eq_true rfl)) (nI_clamp (Nat.le_of_ble_eq_true rfl)) (Nat.le_of_ble_eq_true rfl) (Nat.le_of_ble_eq_true rfl) (Nat.le_of_ble_eq_true rfl) (Nat.le_refl _) (Nat.le_refl _) dX0_init_37 (fun q4 => ?_)
  refine j_putF C (Cn := RX0) (T := TX0) (ty := tyX0) (N := 4) (ws1 := [(h, .inr (2, [.ref q1, .ref q2, .ref q3, .ref q4])), (q4, .inl (cy 1, 40, .inl (fun _ => 0)))]) fin_X0_init_RX0 tyX0_ok nmX0 0 rfl rfl 3 (by decide) (by decide +kernel) rfl hnm rfl rfl rfl (Nat.le_of_ble_eq_true rfl) rfl dX0_init_39 ?_
  refine j_ws (ws1 := [(h, .inr (2, [.ref q1, .ref q2, .ref q3, .ref q4]))]) [0] rfl (by decide) ?_
  refine j_ws (ws1 := []) [] rfl (by decide) ?_
  exact j_vret C (()) (trivial) [] rfl (by decide) (Nat.le_of_ble_eq_true rfl) (Nat.le_of_ble_eq_true rfl) dX0_init_42
set_option maxRecDepth 100000 in
theorem fin_X2_init_RX1 : ∀ w ∈ u_ws RX1 TX1 7, w ∈ wsX2_init := by decide +kernel
set_option maxRecDepth 100000 in
theorem fin_X2_init_RX2 : ∀ w ∈ u_ws RX2 TX2 3, w ∈ wsX2_init := by decide +kernel
set_option maxRecDepth 100000 in
theorem fin_X2_init_RX7 : ∀ w ∈ u_ws RX7 TX7 2, w ∈ wsX2_init := by decide +kernel
set_option maxHeartbeats 4000000 in
set_option maxRecDepth 100000 in
/-- Group() -/
theorem c_X2_init {l : Launch} {G : va_G} {cy : Nat → ClassId} {h : Nat} : Kv l yX2_init wsX2_init G cy [.ref h] [(h, .inr (4, [.null, .null, .int (nI 0)]))] (fun (_ : List Value) => True) (fun vs => [(h, .inr (4, vs))]) 3 170 7131 61 := by
  refine Kv_of (cc := cX2_init) (nL := 2) (by decide) rfl (Nat.le_of_ble_eq_true rfl) ?_
  intro p e s m args below meth c A C hnm
  refine j_lo (lo1 := [(0, .ref h)]) [0] rfl ?_
  refine j_aload_n C rfl 0 rfl dX2_init_0 ?_
  refine j_oinit C (by decide +kernel) (by decide +kernel) (by decide +kernel) (Nat.le_of_ble_eq_true rfl) (Nat.le_of_ble_eq_true rfl) dX2_init_1 ?_
  refine j_aload_n C rfl 0 rfl dX2_init_4 ?_
  refine j_new C (Cn := RX1) (T := TX1) (ty := tyX1) (N := 7) (ci := 3) (fs := [.null, .null, .null, .null, .null, .int (nI 0), .int (nI 0)]) (k1 := 1) (n1 := 7) fin_X2_init_RX1 tyX1_ok (by decide +kernel) (by decide +kernel) (by decide +kernel) rfl (fun j hj => by rcases (show j = 0 ∨ j = 1 ∨ j = 2 ∨ j = 3 ∨ j = 4 ∨ j = 5 ∨ j = 6 by omega) with rfl | rfl | rfl | rfl | rfl | rfl | rfl <;> rfl) (Nat.le_of_ble_eq_true rfl) (Nat.le_of_ble_eq_true rfl) (Nat.le_refl _) (Nat.le_refl _) dX2_init_5 (fun q1 => ?_)
  refine j_dup C rfl dX2_init_8 ?_
  refine j_resv (k1 := 7) (n1 := 489) C (j_runN (host := "Foldrose") C (c_X1_init) gX2_init_X1_init_n11 rfl (by decide +kernel) (C.2.2.2.2.2.2.2.2.2.2.2.2.2.1 (RX2, 11, yX1_init) (by decide +kernel)) (by decide +kernel) rfl hdS_X1_init ⟨Nat.le_of_ble_eq_true rfl, Nat.le_of_ble_eq_true rfl⟩ ⟨Nat.le_of_ble_eq_true rfl, Nat.le_of_ble_eq_true rfl⟩ [1] rfl (by decide) rfl (Nat.le_of_ble_eq_true rfl) dX2_init_9) (wr := [(h, .inr (4, [.null, .null, .int (nI 0)]))]) [0] rfl (by decide) (by decide) (Nat.le_refl _) (Nat.le_refl _) (fun u _ => ?_)
  refine j_putf C (Cn := RX2) (T := TX2) (ty := tyX2) (N := 3) (ws1 := [(h, .inr (4, [.ref q1, .null, .int (nI 0)]))]) fin_X2_init_RX2 tyX2_ok nmX2 0 rfl rfl 0 (by decide) (by decide +kernel) rfl rfl rfl (Nat.le_of_ble_eq_true rfl) rfl dX2_init_12 ?_
  refine j_ws (ws1 := [(h, .inr (4, [.ref q1, .null, .int (nI 0)]))]) [0] rfl (by decide) ?_
  refine j_aload_n C rfl 0 rfl dX2_init_15 ?_
  refine j_bipush C (v := (nI 81)) (by decide +kernel) dX2_init_16 ?_
  refine j_anew C (Cn := RX7) 4 (by decide +kernel) C.2.2.2.2.2.2.2.2.2.2.1.1 rfl (N := 81) (k1 := 8) (n1 := 570) (nI_pos (Nat.le_of_ble_eq_true rfl)) (nI_clamp (Nat.le_of_ble_eq_true rfl)) (Nat.le_of_ble_eq_true rfl) (Nat.le_of_ble_eq_true rfl) (Nat.le_of_ble_eq_true rfl) (Nat.le_refl _) (Nat.le_refl _) dX2_init_18 (fun q2 => ?_)
  refine j_putF C (Cn := RX2) (T := TX2) (ty := tyX2) (N := 3) (ws1 := [(h, .inr (4, [.ref q1, .ref q2, .int (nI 0)])), (q2, .inl (cy 4, 81, .inr (.inr (.inr (.inr (fun _ => none))))))]) fin_X2_init_RX2 tyX2_ok nmX2 0 rfl rfl 1 (by decide) (by decide +kernel) rfl hnm rfl rfl rfl (Nat.le_of_ble_eq_true rfl) rfl dX2_init_21 ?_
  refine j_ws (ws1 := [(h, .inr (4, [.ref q1, .ref q2, .int (nI 0)])), (q2, .inl (cy 4, 81, .inr (.inr (.inr (.inr (fun _ => none))))))]) [0, 1] rfl (by decide) ?_
  refine j_iconst C (v := (nI 0)) (by decide +kernel) dX2_init_24 ?_
  refine j_istore_n C (lo1 := [(1, .int (nI 0)), (0, .ref h)]) rfl (by decide) rfl dX2_init_25 ?_
  refine j_lo (lo1 := [(1, .int (nI 0)), (0, .ref h)]) [0, 1] rfl ?_
  have lp : ∀ (d9 : Nat) (i : Nat) (g1 : Nat → Option Nat), 81 - i < d9 → (i ≤ 81) → J p l e (fz_rm 3 170 7131 61) s m args below meth c (MQ below (va_Qv (fun (_ : List Value) => True) (fz_B G (fun vs => [(h, .inr (4, vs))]) A) A) args s 170 7131 A) G A 2 [(h, .inr (4, [.ref q1, .ref q2, .int (nI 0)])), (q2, .inl (cy 4, 81, .inr (.inr (.inr (.inr g1)))))] (8 + 2 * i) (570 + 81 * i) 26 [(1, .int (nI i)), (0, .ref h)] [] := by
    intro d9
    induction d9 with
    | zero => intro i g1 hd9; exact absurd hd9 (Nat.not_lt_zero _)
    | succ d9 ih =>
      intro i g1 hd9 hi
      refine j_iload_n C rfl 0 rfl dX2_init_26 ?_
      refine j_bipush C (v := (nI 81)) (by decide +kernel) dX2_init_27 ?_
      refine j_icmp_ge C (P := 81 ≤ i) (nI_leI (by omega) (by omega)) (tgt := 53) (by decide) dX2_init_29 (fun ht => ?_) (fun hq => ?_)
      · have hi9 : i = 81 := by omega
        subst hi9
        exact j_vret C [.ref q1, .ref q2, .int (nI 0)] trivial [0] rfl (by decide) (Nat.le_of_ble_eq_true rfl) (Nat.le_of_ble_eq_true rfl) dX2_init_53
      · refine j_aload_n C rfl 1 rfl dX2_init_32 ?_
        refine j_getf C (Cn := RX2) (T := TX2) (N := 3) fin_X2_init_RX2 0 rfl rfl 1 (by decide) (by decide +kernel) rfl dX2_init_33 ?_
        refine j_iload_n C rfl 0 rfl dX2_init_36 ?_
        refine j_new C (Cn := RX7) (T := TX7) (ty := tyX7) (N := 2) (ci := 9) (fs := [.null, .int (nI 0)]) (k1 := 8 + 2 * i + 1) (n1 := 570 + 81 * i + 2) fin_X2_init_RX7 tyX7_ok (by decide +kernel) (by decide +kernel) (by decide +kernel) rfl (fun j hj => by rcases (show j = 0 ∨ j = 1 by omega) with rfl | rfl <;> rfl) ((show 8 + 2 * i + 1 ≤ 170 by omega)) ((show 570 + 81 * i + 2 ≤ 7131 by omega)) (Nat.le_refl _) (Nat.le_refl _) dX2_init_37 (fun r1 => ?_)
        refine j_dup C rfl dX2_init_40 ?_
        refine j_bipush C (v := (nI 79)) (by decide +kernel) dX2_init_41 ?_
        refine j_resv (k1 := 8 + 2 * i + 1 + 1) (n1 := 570 + 81 * i + 2 + 79) C (j_runI C (c_X7_init (R := 79) (Nat.le_of_ble_eq_true rfl) (Nat.le_of_ble_eq_true rfl)) gX2_init_X7_init rfl (by decide +kernel) (by decide +kernel) (by decide +kernel) rfl hdS_X7_init ⟨Nat.le_of_ble_eq_true rfl, Nat.le_of_ble_eq_true rfl⟩ ⟨(show 8 + 2 * i + 1 + 1 ≤ 170 by omega), (show 570 + 81 * i + 2 + 79 ≤ 7131 by omega)⟩ [2] rfl (by decide) rfl (Nat.le_of_ble_eq_true rfl) dX2_init_43) (wr := [(h, .inr (4, [.ref q1, .ref q2, .int (nI 0)])), (q2, .inl (cy 4, 81, .inr (.inr (.inr (.inr g1)))))]) [0, 1] rfl (by decide) (by decide) (Nat.le_refl _) (Nat.le_refl _) (fun r1l _ => ?_)
        refine j_aast C 1 4 2 9 rfl rfl rfl rfl (j := i) (by omega) (by omega) (ws1 := [(h, .inr (4, [.ref q1, .ref q2, .int (nI 0)])), (q2, .inl (cy 4, 81, .inr (.inr (.inr (.inr (va_up g1 i (some r1))))))), (r1, .inr (9, [.ref r1l, .int (nI 0)])), (r1l, .inl (cy 0, 79, .inl (fun _ => 0)))]) rfl dX2_init_46 ?_
        refine j_ws (ws1 := [(h, .inr (4, [.ref q1, .ref q2, .int (nI 0)])), (q2, .inl (cy 4, 81, .inr (.inr (.inr (.inr (va_up g1 i (some r1)))))))]) [0, 1] rfl (by decide) ?_
        refine j_iinc C (v := (nI (i + 1))) (lo1 := [(1, .int (nI (i + 1))), (0, .ref h)]) 0 rfl (fx_inc i 1) (by decide) rfl dX2_init_47 ?_
        refine j_goto C (tgt := 26) (by decide) dX2_init_50 ?_
        refine j_lo (lo1 := [(1, .int (nI (i + 1))), (0, .ref h)]) [0, 1] rfl ?_
        refine j_widen (k1 := 8 + 2 * (i + 1)) (n1 := 570 + 81 * (i + 1)) (by omega) (by omega) ?_
        exact ih (i + 1) _ (by omega) (by omega)
  exact lp 82 0 _ (by omega) (by omega)
set_option maxRecDepth 100000 in
theorem fin_X3_init_RX3 : ∀ w ∈ u_ws RX3 TX3 4, w ∈ wsX3_init := by decide +kernel
set_option maxRecDepth 100000 in
theorem fin_X3_init_RX7 : ∀ w ∈ u_ws RX7 TX7 2, w ∈ wsX3_init := by decide +kernel
set_option maxHeartbeats 4000000 in
set_option maxRecDepth 100000 in
/-- Images() -/
theorem c_X3_init {l : Launch} {G : va_G} {cy : Nat → ClassId} {h : Nat} : Kv l yX3_init wsX3_init G cy [.ref h] [(h, .inr (5, [.null, .null, .null, .null]))] (fun (_ : List Value) => True) (fun vs => [(h, .inr (5, vs))]) 2 10 201 41 := by
  refine Kv_of (cc := cX3_init) (nL := 2) (by decide) rfl (Nat.le_of_ble_eq_true rfl) ?_
  intro p e s m args below meth c A C hnm
  refine j_lo (lo1 := [(0, .ref h)]) [0] rfl ?_
  refine j_aload_n C rfl 0 rfl dX3_init_0 ?_
  refine j_oinit C (by decide +kernel) (by decide +kernel) (by decide +kernel) (Nat.le_of_ble_eq_true rfl) (Nat.le_of_ble_eq_true rfl) dX3_init_1 ?_
  refine j_aload_n C rfl 0 rfl dX3_init_4 ?_
  refine j_iconst C (v := (nI 3)) (by decide +kernel) dX3_init_5 ?_
  refine j_anew C (Cn := RX7) 4 (by decide +kernel) C.2.2.2.2.2.2.2.2.2.2.1.1 rfl (N := 3) (k1 := 1) (n1 := 3) (nI_pos (Nat.le_of_ble_eq_true rfl)) (nI_clamp (Nat.le_of_ble_eq_true rfl)) (Nat.le_of_ble_eq_true rfl) (Nat.le_of_ble_eq_true rfl) (Nat.le_of_ble_eq_true rfl) (Nat.le_refl _) (Nat.le_refl _) dX3_init_6 (fun q1 => ?_)
  refine j_putF C (Cn := RX3) (T := TX3) (ty := tyX3) (N := 4) (ws1 := [(h, .inr (5, [.ref q1, .null, .null, .null])), (q1, .inl (cy 4, 3, .inr (.inr (.inr (.inr (fun _ => none))))))]) fin_X3_init_RX3 tyX3_ok nmX3 0 rfl rfl 0 (by decide) (by decide +kernel) rfl hnm rfl rfl rfl (Nat.le_of_ble_eq_true rfl) rfl dX3_init_9 ?_
  refine j_ws (ws1 := [(h, .inr (5, [.ref q1, .null, .null, .null])), (q1, .inl (cy 4, 3, .inr (.inr (.inr (.inr (fun _ => none))))))]) [0, 1] rfl (by decide) ?_
  refine j_aload_n C rfl 0 rfl dX3_init_12 ?_
  refine j_bipush C (v := (nI 6)) (by decide +kernel) dX3_init_13 ?_
  refine j_newa C (at9 := .int) 1 (by decide +kernel) rfl rfl (N := 6) (a0 := (6, .inl (fun _ => 0))) (k1 := 2) (n1 := 9) (fun _ => rfl) (nI_pos (Nat.le_of_ble_eq_true rfl)) (nI_clamp (Nat.le_of_ble_eq_true rfl)) (Nat.le_of_ble_eq_true rfl) (Nat.le_of_ble_eq_true rfl) (Nat.le_of_ble_eq_true rfl) (Nat.le_refl _) (Nat.le_refl _) dX3_init_15 (fun q2 => ?_)
  refine j_putF C (Cn := RX3) (T := TX3) (ty := tyX3) (N := 4) (ws1 := [(h, .inr (5, [.ref q1, .ref q2, .null, .null])), (q1, .inl (cy 4, 3, .inr (.inr (.inr (.inr (fun _ => none)))))), (q2, .inl (cy 1, 6, .inl (fun _ => 0)))]) fin_X3_init_RX3 tyX3_ok nmX3 0 rfl rfl 1 (by decide) (by decide +kernel) rfl hnm rfl rfl rfl (Nat.le_of_ble_eq_true rfl) rfl dX3_init_17 ?_
  refine j_ws (ws1 := [(h, .inr (5, [.ref q1, .ref q2, .null, .null])), (q1, .inl (cy 4, 3, .inr (.inr (.inr (.inr (fun _ => none))))))]) [0, 1] rfl (by decide) ?_
  refine j_aload_n C rfl 0 rfl dX3_init_20 ?_
  refine j_iconst C (v := (nI 3)) (by decide +kernel) dX3_init_21 ?_
  refine j_newa C (at9 := .long) 3 (by decide +kernel) rfl rfl (N := 3) (a0 := (3, .inr (.inl (fun _ => 0)))) (k1 := 3) (n1 := 12) (fun _ => rfl) (nI_pos (Nat.le_of_ble_eq_true rfl)) (nI_clamp (Nat.le_of_ble_eq_true rfl)) (Nat.le_of_ble_eq_true rfl) (Nat.le_of_ble_eq_true rfl) (Nat.le_of_ble_eq_true rfl) (Nat.le_refl _) (Nat.le_refl _) dX3_init_22 (fun q3 => ?_)
  refine j_putf C (Cn := RX3) (T := TX3) (ty := tyX3) (N := 4) (ws1 := [(h, .inr (5, [.ref q1, .ref q2, .ref q3, .null])), (q1, .inl (cy 4, 3, .inr (.inr (.inr (.inr (fun _ => none)))))), (q3, .inl (cy 3, 3, .inr (.inl (fun _ => 0))))]) fin_X3_init_RX3 tyX3_ok nmX3 0 rfl rfl 2 (by decide) (by decide +kernel) rfl rfl rfl (Nat.le_of_ble_eq_true rfl) rfl dX3_init_24 ?_
  refine j_ws (ws1 := [(h, .inr (5, [.ref q1, .ref q2, .ref q3, .null])), (q1, .inl (cy 4, 3, .inr (.inr (.inr (.inr (fun _ => none))))))]) [0, 1] rfl (by decide) ?_
  refine j_aload_n C rfl 0 rfl dX3_init_27 ?_
  refine j_iconst C (v := (nI 3)) (by decide +kernel) dX3_init_28 ?_
  refine j_newa C (at9 := .long) 3 (by decide +kernel) rfl rfl (N := 3) (a0 := (3, .inr (.inl (fun _ => 0)))) (k1 := 4) (n1 := 15) (fun _ => rfl) (nI_pos (Nat.le_of_ble_eq_true rfl)) (nI_clamp (Nat.le_of_ble_eq_true rfl)) (Nat.le_of_ble_eq_true rfl) (Nat.le_of_ble_eq_true rfl) (Nat.le_of_ble_eq_true rfl) (Nat.le_refl _) (Nat.le_refl _) dX3_init_29 (fun q4 => ?_)
  refine j_putf C (Cn := RX3) (T := TX3) (ty := tyX3) (N := 4) (ws1 := [(h, .inr (5, [.ref q1, .ref q2, .ref q3, .ref q4])), (q1, .inl (cy 4, 3, .inr (.inr (.inr (.inr (fun _ => none)))))), (q4, .inl (cy 3, 3, .inr (.inl (fun _ => 0))))]) fin_X3_init_RX3 tyX3_ok nmX3 0 rfl rfl 3 (by decide) (by decide +kernel) rfl rfl rfl (Nat.le_of_ble_eq_true rfl) rfl dX3_init_31 ?_
  refine j_ws (ws1 := [(h, .inr (5, [.ref q1, .ref q2, .ref q3, .ref q4])), (q1, .inl (cy 4, 3, .inr (.inr (.inr (.inr (fun _ => none))))))]) [0, 1] rfl (by decide) ?_
  refine j_iconst C (v := (nI 0)) (by decide +kernel) dX3_init_34 ?_
  refine j_istore_n C (lo1 := [(1, .int (nI 0)), (0, .ref h)]) rfl (by decide) rfl dX3_init_35 ?_
  refine j_lo (lo1 := [(1, .int (nI 0)), (0, .ref h)]) [0, 1] rfl ?_
  have lp : ∀ (d9 : Nat) (i : Nat) (g1 : Nat → Option Nat), 3 - i < d9 → (i ≤ 3) → J p l e (fz_rm 2 10 201 41) s m args below meth c (MQ below (va_Qv (fun (_ : List Value) => True) (fz_B G (fun vs => [(h, .inr (5, vs))]) A) A) args s 10 201 A) G A 2 [(h, .inr (5, [.ref q1, .ref q2, .ref q3, .ref q4])), (q1, .inl (cy 4, 3, .inr (.inr (.inr (.inr g1)))))] (4 + 2 * i) (15 + 62 * i) 36 [(1, .int (nI i)), (0, .ref h)] [] := by
    intro d9
    induction d9 with
    | zero => intro i g1 hd9; exact absurd hd9 (Nat.not_lt_zero _)
    | succ d9 ih =>
      intro i g1 hd9 hi
      refine j_iload_n C rfl 0 rfl dX3_init_36 ?_
      refine j_iconst C (v := (nI 3)) (by decide +kernel) dX3_init_37 ?_
      refine j_icmp_ge C (P := 3 ≤ i) (nI_leI (by omega) (by omega)) (tgt := 62) (by decide) dX3_init_38 (fun ht => ?_) (fun hq => ?_)
      · have hi9 : i = 3 := by omega
        subst hi9
        exact j_vret C [.ref q1, .ref q2, .ref q3, .ref q4] trivial [0] rfl (by decide) (Nat.le_of_ble_eq_true rfl) (Nat.le_of_ble_eq_true rfl) dX3_init_62
      · refine j_aload_n C rfl 1 rfl dX3_init_41 ?_
        refine j_getf C (Cn := RX3) (T := TX3) (N := 4) fin_X3_init_RX3 0 rfl rfl 0 (by decide) (by decide +kernel) rfl dX3_init_42 ?_
        refine j_iload_n C rfl 0 rfl dX3_init_45 ?_
        refine j_new C (Cn := RX7) (T := TX7) (ty := tyX7) (N := 2) (ci := 9) (fs := [.null, .int (nI 0)]) (k1 := 4 + 2 * i + 1) (n1 := 15 + 62 * i + 2) fin_X3_init_RX7 tyX7_ok (by decide +kernel) (by decide +kernel) (by decide +kernel) rfl (fun j hj => by rcases (show j = 0 ∨ j = 1 by omega) with rfl | rfl <;> rfl) ((show 4 + 2 * i + 1 ≤ 10 by omega)) ((show 15 + 62 * i + 2 ≤ 201 by omega)) (Nat.le_refl _) (Nat.le_refl _) dX3_init_46 (fun r1 => ?_)
        refine j_dup C rfl dX3_init_49 ?_
        refine j_bipush C (v := (nI 60)) (by decide +kernel) dX3_init_50 ?_
        refine j_resv (k1 := 4 + 2 * i + 1 + 1) (n1 := 15 + 62 * i + 2 + 60) C (j_runI C (c_X7_init (R := 60) (Nat.le_of_ble_eq_true rfl) (Nat.le_of_ble_eq_true rfl)) gX3_init_X7_init rfl (by decide +kernel) (by decide +kernel) (by decide +kernel) rfl hdS_X7_init ⟨Nat.le_of_ble_eq_true rfl, Nat.le_of_ble_eq_true rfl⟩ ⟨(show 4 + 2 * i + 1 + 1 ≤ 10 by omega), (show 15 + 62 * i + 2 + 60 ≤ 201 by omega)⟩ [2] rfl (by decide) rfl (Nat.le_of_ble_eq_true rfl) dX3_init_52) (wr := [(h, .inr (5, [.ref q1, .ref q2, .ref q3, .ref q4])), (q1, .inl (cy 4, 3, .inr (.inr (.inr (.inr g1)))))]) [0, 1] rfl (by decide) (by decide) (Nat.le_refl _) (Nat.le_refl _) (fun r1l _ => ?_)
        refine j_aast C 1 4 2 9 rfl rfl rfl rfl (j := i) (by omega) (by omega) (ws1 := [(h, .inr (5, [.ref q1, .ref q2, .ref q3, .ref q4])), (q1, .inl (cy 4, 3, .inr (.inr (.inr (.inr (va_up g1 i (some r1))))))), (r1, .inr (9, [.ref r1l, .int (nI 0)])), (r1l, .inl (cy 0, 60, .inl (fun _ => 0)))]) rfl dX3_init_55 ?_
        refine j_ws (ws1 := [(h, .inr (5, [.ref q1, .ref q2, .ref q3, .ref q4])), (q1, .inl (cy 4, 3, .inr (.inr (.inr (.inr (va_up g1 i (some r1)))))))]) [0, 1] rfl (by decide) ?_
        refine j_iinc C (v := (nI (i + 1))) (lo1 := [(1, .int (nI (i + 1))), (0, .ref h)]) 0 rfl (fx_inc i 1) (by decide) rfl dX3_init_56 ?_
        refine j_goto C (tgt := 36) (by decide) dX3_init_59 ?_
        refine j_lo (lo1 := [(1, .int (nI (i + 1))), (0, .ref h)]) [0, 1] rfl ?_
        refine j_widen (k1 := 4 + 2 * (i + 1)) (n1 := 15 + 62 * (i + 1)) (by omega) (by omega) ?_
        exact ih (i + 1) _ (by omega) (by omega)
  exact lp 4 0 _ (by omega) (by omega)
set_option maxRecDepth 100000 in
theorem fin_X4_init_RX4 : ∀ w ∈ u_ws RX4 TX4 5, w ∈ wsX4_init := by decide +kernel
set_option maxRecDepth 100000 in
theorem fin_X4_init_RX7 : ∀ w ∈ u_ws RX7 TX7 2, w ∈ wsX4_init := by decide +kernel
set_option maxHeartbeats 4000000 in
set_option maxRecDepth 100000 in
/-- Inverter() -/
theorem c_X4_init {l : Launch} {G : va_G} {cy : Nat → ClassId} {h : Nat} : Kv l yX4_init wsX4_init G cy [.ref h] [(h, .inr (6, [.null, .null, .null, .null, .int (nI 0)]))] (fun (_ : Unit) => True) (fun _ => []) 2 18 18322 41 := by
  refine Kv_of (cc := cX4_init) (nL := 2) (by decide) rfl (Nat.le_of_ble_eq_true rfl) ?_
  intro p e s m args below meth c A C hnm
  refine j_lo (lo1 := [(0, .ref h)]) [0] rfl ?_
  refine j_aload_n C rfl 0 rfl dX4_init_0 ?_
  refine j_oinit C (by decide +kernel) (by decide +kernel) (by decide +kernel) (Nat.le_of_ble_eq_true rfl) (Nat.le_of_ble_eq_true rfl) dX4_init_1 ?_
  refine j_aload_n C rfl 0 rfl dX4_init_4 ?_
  refine j_iconst C (v := (nI 3)) (by decide +kernel) dX4_init_5 ?_
  refine j_anew C (Cn := RX7) 4 (by decide +kernel) C.2.2.2.2.2.2.2.2.2.2.1.1 rfl (N := 3) (k1 := 1) (n1 := 3) (nI_pos (Nat.le_of_ble_eq_true rfl)) (nI_clamp (Nat.le_of_ble_eq_true rfl)) (Nat.le_of_ble_eq_true rfl) (Nat.le_of_ble_eq_true rfl) (Nat.le_of_ble_eq_true rfl) (Nat.le_refl _) (Nat.le_refl _) dX4_init_6 (fun q1 => ?_)
  refine j_putF C (Cn := RX4) (T := TX4) (ty := tyX4) (N := 5) (ws1 := [(h, .inr (6, [.ref q1, .null, .null, .null, .int (nI 0)])), (q1, .inl (cy 4, 3, .inr (.inr (.inr (.inr (fun _ => none))))))]) fin_X4_init_RX4 tyX4_ok nmX4 0 rfl rfl 0 (by decide) (by decide +kernel) rfl hnm rfl rfl rfl (Nat.le_of_ble_eq_true rfl) rfl dX4_init_9 ?_
  refine j_ws (ws1 := [(h, .inr (6, [.ref q1, .null, .null, .null, .int (nI 0)])), (q1, .inl (cy 4, 3, .inr (.inr (.inr (.inr (fun _ => none))))))]) [0, 1] rfl (by decide) ?_
  refine j_aload_n C rfl 0 rfl dX4_init_12 ?_
  refine j_iconst C (v := (nI 3)) (by decide +kernel) dX4_init_13 ?_
  refine j_anew C (Cn := RX7) 4 (by decide +kernel) C.2.2.2.2.2.2.2.2.2.2.1.1 rfl (N := 3) (k1 := 2) (n1 := 6) (nI_pos (Nat.le_of_ble_eq_true rfl)) (nI_clamp (Nat.le_of_ble_eq_true rfl)) (Nat.le_of_ble_eq_true rfl) (Nat.le_of_ble_eq_true rfl) (Nat.le_of_ble_eq_true rfl) (Nat.le_refl _) (Nat.le_refl _) dX4_init_14 (fun q2 => ?_)
  refine j_putF C (Cn := RX4) (T := TX4) (ty := tyX4) (N := 5) (ws1 := [(h, .inr (6, [.ref q1, .ref q2, .null, .null, .int (nI 0)])), (q1, .inl (cy 4, 3, .inr (.inr (.inr (.inr (fun _ => none)))))), (q2, .inl (cy 4, 3, .inr (.inr (.inr (.inr (fun _ => none))))))]) fin_X4_init_RX4 tyX4_ok nmX4 0 rfl rfl 1 (by decide) (by decide +kernel) rfl hnm rfl rfl rfl (Nat.le_of_ble_eq_true rfl) rfl dX4_init_17 ?_
  refine j_ws (ws1 := [(h, .inr (6, [.ref q1, .ref q2, .null, .null, .int (nI 0)])), (q1, .inl (cy 4, 3, .inr (.inr (.inr (.inr (fun _ => none)))))), (q2, .inl (cy 4, 3, .inr (.inr (.inr (.inr (fun _ => none))))))]) [0, 1, 2] rfl (by decide) ?_
  refine j_aload_n C rfl 0 rfl dX4_init_20 ?_
  refine j_new C (Cn := RX7) (T := TX7) (ty := tyX7) (N := 2) (ci := 9) (fs := [.null, .int (nI 0)]) (k1 := 3) (n1 := 8) fin_X4_init_RX7 tyX7_ok (by decide +kernel) (by decide +kernel) (by decide +kernel) rfl (fun j hj => by rcases (show j = 0 ∨ j = 1 by omega) with rfl | rfl <;> rfl) (Nat.le_of_ble_eq_true rfl) (Nat.le_of_ble_eq_true rfl) (Nat.le_refl _) (Nat.le_refl _) dX4_init_21 (fun q3 => ?_)
  refine j_dup C rfl dX4_init_24 ?_
  refine j_bipush C (v := (nI 120)) (by decide +kernel) dX4_init_25 ?_
  refine j_resv (k1 := 4) (n1 := 128) C (j_runI C (c_X7_init (R := 120) (Nat.le_of_ble_eq_true rfl) (Nat.le_of_ble_eq_true rfl)) gX4_init_X7_init rfl (by decide +kernel) (by decide +kernel) (by decide +kernel) rfl hdS_X7_init ⟨Nat.le_of_ble_eq_true rfl, Nat.le_of_ble_eq_true rfl⟩ ⟨Nat.le_of_ble_eq_true rfl, Nat.le_of_ble_eq_true rfl⟩ [3] rfl (by decide) rfl (Nat.le_of_ble_eq_true rfl) dX4_init_27) (wr := [(h, .inr (6, [.ref q1, .ref q2, .null, .null, .int (nI 0)])), (q1, .inl (cy 4, 3, .inr (.inr (.inr (.inr (fun _ => none)))))), (q2, .inl (cy 4, 3, .inr (.inr (.inr (.inr (fun _ => none))))))]) [0, 1, 2] rfl (by decide) (by decide) (Nat.le_refl _) (Nat.le_refl _) (fun q3l _ => ?_)
  refine j_putF C (Cn := RX4) (T := TX4) (ty := tyX4) (N := 5) (ws1 := [(h, .inr (6, [.ref q1, .ref q2, .ref q3, .null, .int (nI 0)])), (q1, .inl (cy 4, 3, .inr (.inr (.inr (.inr (fun _ => none)))))), (q2, .inl (cy 4, 3, .inr (.inr (.inr (.inr (fun _ => none)))))), (q3, .inr (9, [.ref q3l, .int (nI 0)])), (q3l, .inl (cy 0, 120, .inl (fun _ => 0)))]) fin_X4_init_RX4 tyX4_ok nmX4 0 rfl rfl 2 (by decide) (by decide +kernel) rfl hnm rfl rfl rfl (Nat.le_of_ble_eq_true rfl) rfl dX4_init_30 ?_
  refine j_ws (ws1 := [(h, .inr (6, [.ref q1, .ref q2, .ref q3, .null, .int (nI 0)])), (q1, .inl (cy 4, 3, .inr (.inr (.inr (.inr (fun _ => none)))))), (q2, .inl (cy 4, 3, .inr (.inr (.inr (.inr (fun _ => none))))))]) [0, 1, 2] rfl (by decide) ?_
  refine j_aload_n C rfl 0 rfl dX4_init_33 ?_
  refine j_new C (Cn := RX7) (T := TX7) (ty := tyX7) (N := 2) (ci := 9) (fs := [.null, .int (nI 0)]) (k1 := 5) (n1 := 130) fin_X4_init_RX7 tyX7_ok (by decide +kernel) (by decide +kernel) (by decide +kernel) rfl (fun j hj => by rcases (show j = 0 ∨ j = 1 by omega) with rfl | rfl <;> rfl) (Nat.le_of_ble_eq_true rfl) (Nat.le_of_ble_eq_true rfl) (Nat.le_refl _) (Nat.le_refl _) dX4_init_34 (fun q4 => ?_)
  refine j_dup C rfl dX4_init_37 ?_
  refine j_sipush C (v := (nI 7200)) (by decide +kernel) dX4_init_38 ?_
  refine j_resv (k1 := 6) (n1 := 7330) C (j_runI C (c_X7_init (R := 7200) (Nat.le_of_ble_eq_true rfl) (Nat.le_of_ble_eq_true rfl)) gX4_init_X7_init rfl (by decide +kernel) (by decide +kernel) (by decide +kernel) rfl hdS_X7_init ⟨Nat.le_of_ble_eq_true rfl, Nat.le_of_ble_eq_true rfl⟩ ⟨Nat.le_of_ble_eq_true rfl, Nat.le_of_ble_eq_true rfl⟩ [3] rfl (by decide) rfl (Nat.le_of_ble_eq_true rfl) dX4_init_41) (wr := [(h, .inr (6, [.ref q1, .ref q2, .ref q3, .null, .int (nI 0)])), (q1, .inl (cy 4, 3, .inr (.inr (.inr (.inr (fun _ => none)))))), (q2, .inl (cy 4, 3, .inr (.inr (.inr (.inr (fun _ => none))))))]) [0, 1, 2] rfl (by decide) (by decide) (Nat.le_refl _) (Nat.le_refl _) (fun q4l _ => ?_)
  refine j_putF C (Cn := RX4) (T := TX4) (ty := tyX4) (N := 5) (ws1 := [(h, .inr (6, [.ref q1, .ref q2, .ref q3, .ref q4, .int (nI 0)])), (q1, .inl (cy 4, 3, .inr (.inr (.inr (.inr (fun _ => none)))))), (q2, .inl (cy 4, 3, .inr (.inr (.inr (.inr (fun _ => none)))))), (q4, .inr (9, [.ref q4l, .int (nI 0)])), (q4l, .inl (cy 0, 7200, .inl (fun _ => 0)))]) fin_X4_init_RX4 tyX4_ok nmX4 0 rfl rfl 3 (by decide) (by decide +kernel) rfl hnm rfl rfl rfl (Nat.le_of_ble_eq_true rfl) rfl dX4_init_44 ?_
  refine j_ws (ws1 := [(h, .inr (6, [.ref q1, .ref q2, .ref q3, .ref q4, .int (nI 0)])), (q1, .inl (cy 4, 3, .inr (.inr (.inr (.inr (fun _ => none)))))), (q2, .inl (cy 4, 3, .inr (.inr (.inr (.inr (fun _ => none))))))]) [0, 1, 2] rfl (by decide) ?_
  refine j_iconst C (v := (nI 0)) (by decide +kernel) dX4_init_47 ?_
  refine j_istore_n C (lo1 := [(1, .int (nI 0)), (0, .ref h)]) rfl (by decide) rfl dX4_init_48 ?_
  refine j_lo (lo1 := [(1, .int (nI 0)), (0, .ref h)]) [0, 1] rfl ?_
  have lp : ∀ (d9 : Nat) (i : Nat) (g1 : Nat → Option Nat) (g2 : Nat → Option Nat), 3 - i < d9 → (i ≤ 3) → J p l e (fz_rm 2 18 18322 41) s m args below meth c (MQ below (va_Qv (fun (_ : Unit) => True) (fz_B G (fun _ => []) A) A) args s 18 18322 A) G A 2 [(h, .inr (6, [.ref q1, .ref q2, .ref q3, .ref q4, .int (nI 0)])), (q1, .inl (cy 4, 3, .inr (.inr (.inr (.inr g1))))), (q2, .inl (cy 4, 3, .inr (.inr (.inr (.inr g2)))))] (6 + 4 * i) (7330 + 3664 * i) 49 [(1, .int (nI i)), (0, .ref h)] [] := by
    intro d9
    induction d9 with
    | zero => intro i g1 g2 hd9; exact absurd hd9 (Nat.not_lt_zero _)
    | succ d9 ih =>
      intro i g1 g2 hd9 hi
      refine j_iload_n C rfl 0 rfl dX4_init_49 ?_
      refine j_iconst C (v := (nI 3)) (by decide +kernel) dX4_init_50 ?_
      refine j_icmp_ge C (P := 3 ≤ i) (nI_leI (by omega) (by omega)) (tgt := 91) (by decide) dX4_init_51 (fun ht => ?_) (fun hq => ?_)
      · have hi9 : i = 3 := by omega
        subst hi9
        exact j_vret C () trivial [] rfl (by decide) (Nat.le_of_ble_eq_true rfl) (Nat.le_of_ble_eq_true rfl) dX4_init_91
      · refine j_aload_n C rfl 1 rfl dX4_init_54 ?_
        refine j_getf C (Cn := RX4) (T := TX4) (N := 5) fin_X4_init_RX4 0 rfl rfl 0 (by decide) (by decide +kernel) rfl dX4_init_55 ?_
        refine j_iload_n C rfl 0 rfl dX4_init_58 ?_
        refine j_new C (Cn := RX7) (T := TX7) (ty := tyX7) (N := 2) (ci := 9) (fs := [.null, .int (nI 0)]) (k1 := 6 + 4 * i + 1) (n1 := 7330 + 3664 * i + 2) fin_X4_init_RX7 tyX7_ok (by decide +kernel) (by decide +kernel) (by decide +kernel) rfl (fun j hj => by rcases (show j = 0 ∨ j = 1 by omega) with rfl | rfl <;> rfl) ((show 6 + 4 * i + 1 ≤ 18 by omega)) ((show 7330 + 3664 * i + 2 ≤ 18322 by omega)) (Nat.le_refl _) (Nat.le_refl _) dX4_init_59 (fun r1 => ?_)
        refine j_dup C rfl dX4_init_62 ?_
        refine j_bipush C (v := (nI 60)) (by decide +kernel) dX4_init_63 ?_
        refine j_resv (k1 := 6 + 4 * i + 1 + 1) (n1 := 7330 + 3664 * i + 2 + 60) C (j_runI C (c_X7_init (R := 60) (Nat.le_of_ble_eq_true rfl) (Nat.le_of_ble_eq_true rfl)) gX4_init_X7_init rfl (by decide +kernel) (by decide +kernel) (by decide +kernel) rfl hdS_X7_init ⟨Nat.le_of_ble_eq_true rfl, Nat.le_of_ble_eq_true rfl⟩ ⟨(show 6 + 4 * i + 1 + 1 ≤ 18 by omega), (show 7330 + 3664 * i + 2 + 60 ≤ 18322 by omega)⟩ [3] rfl (by decide) rfl (Nat.le_of_ble_eq_true rfl) dX4_init_65) (wr := [(h, .inr (6, [.ref q1, .ref q2, .ref q3, .ref q4, .int (nI 0)])), (q1, .inl (cy 4, 3, .inr (.inr (.inr (.inr g1))))), (q2, .inl (cy 4, 3, .inr (.inr (.inr (.inr g2)))))]) [0, 1, 2] rfl (by decide) (by decide) (Nat.le_refl _) (Nat.le_refl _) (fun r1l _ => ?_)
        refine j_aast C 1 4 3 9 rfl rfl rfl rfl (j := i) (by omega) (by omega) (ws1 := [(h, .inr (6, [.ref q1, .ref q2, .ref q3, .ref q4, .int (nI 0)])), (q1, .inl (cy 4, 3, .inr (.inr (.inr (.inr (va_up g1 i (some r1))))))), (q2, .inl (cy 4, 3, .inr (.inr (.inr (.inr g2))))), (r1, .inr (9, [.ref r1l, .int (nI 0)])), (r1l, .inl (cy 0, 60, .inl (fun _ => 0)))]) rfl dX4_init_68 ?_
        refine j_ws (ws1 := [(h, .inr (6, [.ref q1, .ref q2, .ref q3, .ref q4, .int (nI 0)])), (q1, .inl (cy 4, 3, .inr (.inr (.inr (.inr (va_up g1 i (some r1))))))), (q2, .inl (cy 4, 3, .inr (.inr (.inr (.inr g2)))))]) [0, 1, 2] rfl (by decide) ?_
        refine j_aload_n C rfl 1 rfl dX4_init_69 ?_
        refine j_getf C (Cn := RX4) (T := TX4) (N := 5) fin_X4_init_RX4 0 rfl rfl 1 (by decide) (by decide +kernel) rfl dX4_init_70 ?_
        refine j_iload_n C rfl 0 rfl dX4_init_73 ?_
        refine j_new C (Cn := RX7) (T := TX7) (ty := tyX7) (N := 2) (ci := 9) (fs := [.null, .int (nI 0)]) (k1 := 6 + 4 * i + 1 + 1 + 1) (n1 := 7330 + 3664 * i + 2 + 60 + 2) fin_X4_init_RX7 tyX7_ok (by decide +kernel) (by decide +kernel) (by decide +kernel) rfl (fun j hj => by rcases (show j = 0 ∨ j = 1 by omega) with rfl | rfl <;> rfl) ((show 6 + 4 * i + 1 + 1 + 1 ≤ 18 by omega)) ((show 7330 + 3664 * i + 2 + 60 + 2 ≤ 18322 by omega)) (Nat.le_refl _) (Nat.le_refl _) dX4_init_74 (fun r2 => ?_)
        refine j_dup C rfl dX4_init_77 ?_
        refine j_sipush C (v := (nI 3600)) (by decide +kernel) dX4_init_78 ?_
        refine j_resv (k1 := 6 + 4 * i + 1 + 1 + 1 + 1) (n1 := 7330 + 3664 * i + 2 + 60 + 2 + 3600) C (j_runI C (c_X7_init (R := 3600) (Nat.le_of_ble_eq_true rfl) (Nat.le_of_ble_eq_true rfl)) gX4_init_X7_init rfl (by decide +kernel) (by decide +kernel) (by decide +kernel) rfl hdS_X7_init ⟨Nat.le_of_ble_eq_true rfl, Nat.le_of_ble_eq_true rfl⟩ ⟨(show 6 + 4 * i + 1 + 1 + 1 + 1 ≤ 18 by omega), (show 7330 + 3664 * i + 2 + 60 + 2 + 3600 ≤ 18322 by omega)⟩ [3] rfl (by decide) rfl (Nat.le_of_ble_eq_true rfl) dX4_init_81) (wr := [(h, .inr (6, [.ref q1, .ref q2, .ref q3, .ref q4, .int (nI 0)])), (q1, .inl (cy 4, 3, .inr (.inr (.inr (.inr (va_up g1 i (some r1))))))), (q2, .inl (cy 4, 3, .inr (.inr (.inr (.inr g2)))))]) [0, 1, 2] rfl (by decide) (by decide) (Nat.le_refl _) (Nat.le_refl _) (fun r2l _ => ?_)
        refine j_aast C 2 4 3 9 rfl rfl rfl rfl (j := i) (by omega) (by omega) (ws1 := [(h, .inr (6, [.ref q1, .ref q2, .ref q3, .ref q4, .int (nI 0)])), (q1, .inl (cy 4, 3, .inr (.inr (.inr (.inr (va_up g1 i (some r1))))))), (q2, .inl (cy 4, 3, .inr (.inr (.inr (.inr (va_up g2 i (some r2))))))), (r2, .inr (9, [.ref r2l, .int (nI 0)])), (r2l, .inl (cy 0, 3600, .inl (fun _ => 0)))]) rfl dX4_init_84 ?_
        refine j_ws (ws1 := [(h, .inr (6, [.ref q1, .ref q2, .ref q3, .ref q4, .int (nI 0)])), (q1, .inl (cy 4, 3, .inr (.inr (.inr (.inr (va_up g1 i (some r1))))))), (q2, .inl (cy 4, 3, .inr (.inr (.inr (.inr (va_up g2 i (some r2)))))))]) [0, 1, 2] rfl (by decide) ?_
        refine j_iinc C (v := (nI (i + 1))) (lo1 := [(1, .int (nI (i + 1))), (0, .ref h)]) 0 rfl (fx_inc i 1) (by decide) rfl dX4_init_85 ?_
        refine j_goto C (tgt := 49) (by decide) dX4_init_88 ?_
        refine j_lo (lo1 := [(1, .int (nI (i + 1))), (0, .ref h)]) [0, 1] rfl ?_
        refine j_widen (k1 := 6 + 4 * (i + 1)) (n1 := 7330 + 3664 * (i + 1)) (by omega) (by omega) ?_
        exact ih (i + 1) _ _ (by omega) (by omega)
  exact lp 4 0 _ _ (by omega) (by omega)
