theorem sg_255 : ∀ k, k < 6 → sg k &&& nI 255 = sg k := by decide +kernel
theorem sg_i2c : ∀ k, k < 6 → ((sg k).toUInt32 % 65536).toInt32 = sg k := by decide +kernel
theorem sg_lit (k : Nat) : [97, 65, 98, 66, 99, 67].getD k (0 : Int32) = sg k := rfl
set_option maxHeartbeats 4000000 in
set_option maxRecDepth 100000 in
/-- String.isLatin1, of the literal -/
theorem c_J0_isLatin1 {l : Launch} {G : va_G} {cy : Nat → ClassId}  : Ki l yJ0_isLatin1_aae02 wsJ0_isLatin1_aae02 G cy [.ref (cy 7)] [] (fun (v : Int32) (_ : Unit) => v = 1) (fun _ => []) 0 0 0 0 := by
  refine Ki_of (cc := cJ0_isLatin1_aae02) (nL := 1) (by decide) rfl (Nat.le_of_ble_eq_true rfl) ?_
  intro p e s m args below meth c A C hnm
  refine j_lo (lo1 := [(0, .ref (cy 7))]) [0] rfl ?_
  refine j_gcs C (by decide +kernel) dJ0_isLatin1_aae02_0 ?_
  refine j_if_eq C (P := False) (by decide) (tgt := 17) (by decide) dJ0_isLatin1_aae02_3 (fun ht => absurd ht (id)) (fun hq => ?_)
  refine j_aload_n C rfl 0 rfl dJ0_isLatin1_aae02_6 ?_
  refine j_litc C (by decide +kernel) dJ0_isLatin1_aae02_7 ?_
  refine j_if_ne C (P := True) (by decide) (tgt := 17) (by decide) dJ0_isLatin1_aae02_10 (fun ht => absurd ht (fun z => z trivial)) (fun hq => ?_)
  refine j_iconst C (v := (nI 1)) (by decide +kernel) dJ0_isLatin1_aae02_13 ?_
  refine j_goto C (tgt := 18) (by decide) dJ0_isLatin1_aae02_14 ?_
  exact j_iret C rfl (rfl) (()) (rfl) [] rfl (by decide) (Nat.le_of_ble_eq_true rfl) (Nat.le_of_ble_eq_true rfl) dJ0_isLatin1_aae02_18
set_option maxHeartbeats 4000000 in
set_option maxRecDepth 100000 in
/-- Preconditions.checkIndex -/
theorem c_J3_checkN {l : Launch} {G : va_G} {cy : Nat → ClassId} {a b : Nat} (hab : a < b) (hb : b < 2 ^ 31) : Ki l yJ3_checkIndex_8e157 wsJ3_checkIndex_8e157 G cy [.int (nI a), .int (nI b), .null] [] (fun (v : Int32) (_ : Unit) => v = nI a) (fun _ => []) 0 0 0 0 := by
  refine Ki_of (cc := cJ3_checkIndex_8e157) (nL := 3) (by decide) rfl (Nat.le_of_ble_eq_true rfl) ?_
  intro p e s m args below meth c A C hnm
  refine j_lo (lo1 := [(0, .int (nI a)), (1, .int (nI b)), (2, .null)]) [0, 1, 2] rfl ?_
  refine j_iload_n C rfl 0 rfl dJ3_checkIndex_8e157_0 ?_
  refine j_if_lt C (P := False) (fx_lt0 (by omega)) (tgt := 9) (by decide) dJ3_checkIndex_8e157_1 (fun ht => absurd ht (id)) (fun hq => ?_)
  refine j_iload_n C rfl 0 rfl dJ3_checkIndex_8e157_4 ?_
  refine j_iload_n C rfl 1 rfl dJ3_checkIndex_8e157_5 ?_
  refine j_icmp_lt C (P := a < b) (nI_ltI (by omega) (by omega)) (tgt := 16) (by decide) dJ3_checkIndex_8e157_6 (fun ht => ?_) (fun hq => absurd hq (by omega))
  refine j_iload_n C rfl 0 rfl dJ3_checkIndex_8e157_16 ?_
  exact j_iret C rfl (rfl) (()) (rfl) [] rfl (by decide) (Nat.le_of_ble_eq_true rfl) (Nat.le_of_ble_eq_true rfl) dJ3_checkIndex_8e157_17
set_option maxHeartbeats 4000000 in
set_option maxRecDepth 100000 in
/-- Preconditions.checkIndex -/
theorem c_J3_checkR {l : Launch} {G : va_G} {cy : Nat → ClassId} {t9 : Nat} {a b : Nat} (hab : a < b) (hb : b < 2 ^ 31) : Ki l yJ3_checkIndex_8e157 wsJ3_checkIndex_8e157 G cy [.int (nI a), .int (nI b), .ref t9] [] (fun (v : Int32) (_ : Unit) => v = nI a) (fun _ => []) 0 0 0 0 := by
  refine Ki_of (cc := cJ3_checkIndex_8e157) (nL := 3) (by decide) rfl (Nat.le_of_ble_eq_true rfl) ?_
  intro p e s m args below meth c A C hnm
  refine j_lo (lo1 := [(0, .int (nI a)), (1, .int (nI b)), (2, .ref t9)]) [0, 1, 2] rfl ?_
  refine j_iload_n C rfl 0 rfl dJ3_checkIndex_8e157_0 ?_
  refine j_if_lt C (P := False) (fx_lt0 (by omega)) (tgt := 9) (by decide) dJ3_checkIndex_8e157_1 (fun ht => absurd ht (id)) (fun hq => ?_)
  refine j_iload_n C rfl 0 rfl dJ3_checkIndex_8e157_4 ?_
  refine j_iload_n C rfl 1 rfl dJ3_checkIndex_8e157_5 ?_
  refine j_icmp_lt C (P := a < b) (nI_ltI (by omega) (by omega)) (tgt := 16) (by decide) dJ3_checkIndex_8e157_6 (fun ht => ?_) (fun hq => absurd hq (by omega))
  refine j_iload_n C rfl 0 rfl dJ3_checkIndex_8e157_16 ?_
  exact j_iret C rfl (rfl) (()) (rfl) [] rfl (by decide) (Nat.le_of_ble_eq_true rfl) (Nat.le_of_ble_eq_true rfl) dJ3_checkIndex_8e157_17
theorem hdS_J3_checkIndex_8e157 : yJ3_checkIndex_8e157.cls ≠ "java/lang/invoke/MethodHandle" ∧ yJ3_checkIndex_8e157.cls ≠ "java/lang/invoke/VarHandle" ∧ (parseMethodDescriptor yJ3_checkIndex_8e157.desc).map (fun d => d.parameters.length) = some 3 := by decide +kernel
set_option maxHeartbeats 4000000 in
set_option maxRecDepth 100000 in
/-- String.checkIndex -/
theorem c_J0_checkIndex {l : Launch} {G : va_G} {cy : Nat → ClassId} {a b : Nat} (hab : a < b) (hb : b < 2 ^ 31) : Kv l yJ0_checkIndex_df160 wsJ0_checkIndex_df160 G cy [.int (nI a), .int (nI b)] [] (fun (_ : Unit) => True) (fun _ => []) 1 0 0 22 := by
  refine Kv_of (cc := cJ0_checkIndex_df160) (nL := 2) (by decide) rfl (Nat.le_of_ble_eq_true rfl) ?_
  intro p e s m args below meth c A C hnm
  refine j_lo (lo1 := [(0, .int (nI a)), (1, .int (nI b))]) [0, 1] rfl ?_
  refine j_iload_n C rfl 0 rfl dJ0_checkIndex_df160_0 ?_
  refine j_iload_n C rfl 1 rfl dJ0_checkIndex_df160_1 ?_
  refine j_gsf C (by decide +kernel) dJ0_checkIndex_df160_2 ?_ (fun t9 => ?_)
  · refine j_resi (k1 := 0) (n1 := 0) C (j_runS C (c_J3_checkN hab hb) gJ0_checkIndex_df160_J3_checkIndex_8e157 rfl hdS_J3_checkIndex_8e157 ⟨Nat.le_of_ble_eq_true rfl, Nat.le_of_ble_eq_true rfl⟩ ⟨Nat.le_of_ble_eq_true rfl, Nat.le_of_ble_eq_true rfl⟩ [] rfl (by decide) rfl (Nat.le_of_ble_eq_true rfl) dJ0_checkIndex_df160_5) (wr := []) [] rfl (by decide) (by decide) (Nat.le_refl _) (Nat.le_refl _) (fun v u hv => ?_)
    refine j_pop C rfl dJ0_checkIndex_df160_8 ?_
    exact j_vret C (()) (trivial) [] rfl (by decide) (Nat.le_of_ble_eq_true rfl) (Nat.le_of_ble_eq_true rfl) dJ0_checkIndex_df160_9
  · refine j_resi (k1 := 0) (n1 := 0) C (j_runS C (c_J3_checkR hab hb) gJ0_checkIndex_df160_J3_checkIndex_8e157 rfl hdS_J3_checkIndex_8e157 ⟨Nat.le_of_ble_eq_true rfl, Nat.le_of_ble_eq_true rfl⟩ ⟨Nat.le_of_ble_eq_true rfl, Nat.le_of_ble_eq_true rfl⟩ [] rfl (by decide) rfl (Nat.le_of_ble_eq_true rfl) dJ0_checkIndex_df160_5) (wr := []) [] rfl (by decide) (by decide) (Nat.le_refl _) (Nat.le_refl _) (fun v u hv => ?_)
    refine j_pop C rfl dJ0_checkIndex_df160_8 ?_
    exact j_vret C (()) (trivial) [] rfl (by decide) (Nat.le_of_ble_eq_true rfl) (Nat.le_of_ble_eq_true rfl) dJ0_checkIndex_df160_9
theorem hdS_J0_checkIndex_df160 : yJ0_checkIndex_df160.cls ≠ "java/lang/invoke/MethodHandle" ∧ yJ0_checkIndex_df160.cls ≠ "java/lang/invoke/VarHandle" ∧ (parseMethodDescriptor yJ0_checkIndex_df160.desc).map (fun d => d.parameters.length) = some 2 := by decide +kernel
set_option maxHeartbeats 4000000 in
set_option maxRecDepth 100000 in
/-- StringLatin1.charAt -/
theorem c_J1_charAt {l : Launch} {G : va_G} {cy : Nat → ClassId} {k : Nat} (hk : k < 6) : Ki l yJ1_charAt_3b067 wsJ1_charAt_3b067 G cy [.ref (cy 8), .int (nI k)] [] (fun (v : Int32) (_ : Unit) => v = sg k) (fun _ => []) 2 0 0 43 := by
  refine Ki_of (cc := cJ1_charAt_3b067) (nL := 2) (by decide) rfl (Nat.le_of_ble_eq_true rfl) ?_
  intro p e s m args below meth c A C hnm
  refine j_lo (lo1 := [(0, .ref (cy 8)), (1, .int (nI k))]) [0, 1] rfl ?_
  refine j_iload_n C rfl 1 rfl dJ1_charAt_3b067_0 ?_
  refine j_aload_n C rfl 0 rfl dJ1_charAt_3b067_1 ?_
  refine j_litn C dJ1_charAt_3b067_2 ?_
  refine j_resv (k1 := 0) (n1 := 0) C (j_runS C (c_J0_checkIndex hk (by decide)) gJ1_charAt_3b067_J0_checkIndex_df160 rfl hdS_J0_checkIndex_df160 ⟨Nat.le_of_ble_eq_true rfl, Nat.le_of_ble_eq_true rfl⟩ ⟨Nat.le_of_ble_eq_true rfl, Nat.le_of_ble_eq_true rfl⟩ [] rfl (by decide) rfl (Nat.le_of_ble_eq_true rfl) dJ1_charAt_3b067_3) (wr := []) [] rfl (by decide) (by decide) (Nat.le_refl _) (Nat.le_refl _) (fun u9 _ => ?_)
  refine j_aload_n C rfl 0 rfl dJ1_charAt_3b067_6 ?_
  refine j_iload_n C rfl 1 rfl dJ1_charAt_3b067_7 ?_
  refine j_litb C hk (sg_lit _) dJ1_charAt_3b067_8 ?_
  refine j_sipush C (v := (nI 255)) (by decide +kernel) dJ1_charAt_3b067_9 ?_
  refine j_iand C (v := (sg k)) (sg_255 k hk) dJ1_charAt_3b067_12 ?_
  refine j_i2c C (v := (sg k)) (sg_i2c k hk) dJ1_charAt_3b067_13 ?_
  exact j_iret C rfl (sg_nar k hk) (()) (rfl) [] rfl (by decide) (Nat.le_of_ble_eq_true rfl) (Nat.le_of_ble_eq_true rfl) dJ1_charAt_3b067_14
theorem hdS_J1_charAt_3b067 : yJ1_charAt_3b067.cls ≠ "java/lang/invoke/MethodHandle" ∧ yJ1_charAt_3b067.cls ≠ "java/lang/invoke/VarHandle" ∧ (parseMethodDescriptor yJ1_charAt_3b067.desc).map (fun d => d.parameters.length) = some 2 := by decide +kernel
theorem hdV_J0_isLatin1_aae02 : yJ0_isLatin1_aae02.cls = RJ0 ∧ yJ0_isLatin1_aae02.cls ≠ "java/lang/invoke/MethodHandle" ∧ yJ0_isLatin1_aae02.cls ≠ "java/lang/invoke/VarHandle" ∧ (parseMethodDescriptor yJ0_isLatin1_aae02.desc).map (fun d => d.parameters.length) = some 0 := by decide +kernel
set_option maxHeartbeats 4000000 in
set_option maxRecDepth 100000 in
/-- String.charAt, of the literal -/
theorem c_J0_charAt {l : Launch} {G : va_G} {cy : Nat → ClassId} {k : Nat} (hk : k < 6) : Ki l yJ0_charAt_5068e wsJ0_charAt_5068e G cy [.ref (cy 7), .int (nI k)] [] (fun (v : Int32) (_ : Unit) => v = sg k) (fun _ => []) 3 0 0 64 := by
  refine Ki_of (cc := cJ0_charAt_5068e) (nL := 2) (by decide) rfl (Nat.le_of_ble_eq_true rfl) ?_
  intro p e s m args below meth c A C hnm
  refine j_lo (lo1 := [(0, .ref (cy 7)), (1, .int (nI k))]) [0, 1] rfl ?_
  refine j_aload_n C rfl 0 rfl dJ0_charAt_5068e_0 ?_
  refine j_resi (k1 := 0) (n1 := 0) C (j_runVs C (c_J0_isLatin1) gJ0_charAt_5068e_J0_isLatin1_aae02 rfl hdV_J0_isLatin1_aae02 ⟨Nat.le_of_ble_eq_true rfl, Nat.le_of_ble_eq_true rfl⟩ ⟨Nat.le_of_ble_eq_true rfl, Nat.le_of_ble_eq_true rfl⟩ [] rfl rfl rfl (Nat.le_of_ble_eq_true rfl) dJ0_charAt_5068e_1) (wr := []) [] rfl (by decide) (by decide) (Nat.le_refl _) (Nat.le_refl _) (fun v u hv => ?_)
  refine j_weq (ws1 := []) (by rfl) ?_
  subst hv
  refine j_if_eq C (P := False) (by decide) (tgt := 16) (by decide) dJ0_charAt_5068e_4 (fun ht => absurd ht (id)) (fun hq => ?_)
  refine j_aload_n C rfl 0 rfl dJ0_charAt_5068e_7 ?_
  refine j_litv C (by decide +kernel) dJ0_charAt_5068e_8 ?_
  refine j_iload_n C rfl 1 rfl dJ0_charAt_5068e_11 ?_
  refine j_resi (k1 := 0) (n1 := 0) C (j_runS C (c_J1_charAt hk) gJ0_charAt_5068e_J1_charAt_3b067 rfl hdS_J1_charAt_3b067 ⟨Nat.le_of_ble_eq_true rfl, Nat.le_of_ble_eq_true rfl⟩ ⟨Nat.le_of_ble_eq_true rfl, Nat.le_of_ble_eq_true rfl⟩ [] rfl (by decide) rfl (Nat.le_of_ble_eq_true rfl) dJ0_charAt_5068e_12) (wr := []) [] rfl (by decide) (by decide) (Nat.le_refl _) (Nat.le_refl _) (fun v u hv => ?_)
  subst hv
  exact j_iret C rfl (sg_nar k hk) (()) (rfl) [] rfl (by decide) (Nat.le_of_ble_eq_true rfl) (Nat.le_of_ble_eq_true rfl) dJ0_charAt_5068e_15
