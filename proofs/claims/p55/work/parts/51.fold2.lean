/-- m times one behind the other -/
def rp (xs : List Nat) : Nat → List Nat
  | 0 => []
  | m + 1 => rp xs m ++ xs
theorem rp_len (xs : List Nat) : ∀ m, (rp xs m).length = m * xs.length
  | 0 => by simp [rp]
  | m + 1 => by rw [rp, List.length_append, rp_len xs m, Nat.succ_mul]
theorem L6_rp {xs : List Nat} (h : L6 xs) : ∀ m, L6 (rp xs m)
  | 0 => L6_nil
  | m + 1 => L6_app (L6_rp h m) h
theorem fx_lti {n : Nat} (h : n < 2 ^ 30) : nI n < -nI n ↔ False := by
  refine ⟨fun h1 => ?_, False.elim⟩
  rw [Int32.lt_iff_toInt_lt, sb_negT (by omega), nI_toInt (by omega)] at h1
  omega
theorem fx_n6 {m : Nat} (h : m ≤ 6) : nI m < -6 ↔ False := by
  have : ∀ j : Fin 7, ¬ nI j.val < -6 := by decide +kernel
  exact ⟨this ⟨m, by omega⟩, False.elim⟩
theorem fx_m6 {m : Nat} (h : m ≤ 6) : -nI m < -6 ↔ False := by
  have : ∀ j : Fin 7, ¬ -nI j.val < -6 := by decide +kernel
  exact ⟨this ⟨m, by omega⟩, False.elim⟩
theorem fx_m6b {m : Nat} (h : m ≤ 6) : -nI m ≤ nI 6 ↔ True := by
  have : ∀ j : Fin 7, -nI j.val ≤ nI 6 := by decide +kernel
  exact ⟨fun _ => trivial, fun _ => this ⟨m, by omega⟩⟩
theorem fx_neg {i m : Nat} (hi : i < 2 ^ 31) (hm : m < 2 ^ 31) : -nI m ≤ nI i ↔ True := by
  refine ⟨fun _ => trivial, fun _ => ?_⟩
  rw [Int32.le_iff_toInt_le, sb_negT hm, nI_toInt hi]
  omega
theorem fx_nn9 (x : Int32) : - -x = x := Int32.neg_neg
set_option maxRecDepth 100000 in
theorem fin_X9_length_RX7 : ∀ w ∈ u_ws RX7 TX7 2, w ∈ wsX9_length := by decide +kernel
theorem hdV_X9_wordAt : yX9_wordAt.cls = RX9 ∧ yX9_wordAt.cls ≠ "java/lang/invoke/MethodHandle" ∧ yX9_wordAt.cls ≠ "java/lang/invoke/VarHandle" ∧ (parseMethodDescriptor yX9_wordAt.desc).map (fun d => d.parameters.length) = some 1 := by decide +kernel
set_option maxHeartbeats 4000000 in
set_option maxRecDepth 100000 in
/-- length -/
theorem c_X9_length {l : Launch} {G : va_G} {cy : Nat → ClassId} {h ty aw dr se : Nat} {ad : Nat → Nat} {tn : Int32} {wn : Nat} {g : Nat → Option Nat} {a1 b1 i : Nat} {xs : List Nat} (hw : wn ≤ 24) (hi : i < wn) (hg1 : g i = some a1) : Ki l yX9_length wsX9_length G cy [.ref h, .int (nI i)] [(h, .inr (11, [.ref ty, .int tn, .ref aw, .int (nI wn), .ref (ad 4), .ref (ad 5), .ref (ad 6), .int (nI 0), .ref (ad 8), .int (nI 0), .ref dr, .ref se, .ref (ad 12), .ref (ad 13), .ref (ad 14), .ref (ad 15), .ref (ad 16), .ref (ad 17)])), (aw, .inl (cy 4, 24, .inr (.inr (.inr (.inr g))))), (a1, .inr (9, [.ref b1, .int (nI xs.length)]))] (fun (v : Int32) (_ : Unit) => v = nI xs.length) (fun _ => [(h, .inr (11, [.ref ty, .int tn, .ref aw, .int (nI wn), .ref (ad 4), .ref (ad 5), .ref (ad 6), .int (nI 0), .ref (ad 8), .int (nI 0), .ref dr, .ref se, .ref (ad 12), .ref (ad 13), .ref (ad 14), .ref (ad 15), .ref (ad 16), .ref (ad 17)])), (aw, .inl (cy 4, 24, .inr (.inr (.inr (.inr g))))), (a1, .inr (9, [.ref b1, .int (nI xs.length)]))]) 1 0 0 21 := by
  refine Ki_of (cc := cX9_length) (nL := 2) (by decide) rfl (Nat.le_of_ble_eq_true rfl) ?_
  intro p e s m args below meth c A C hnm
  refine j_lo (lo1 := [(0, .ref h), (1, .int (nI i))]) [0, 1] rfl ?_
  refine j_aload_n C rfl 0 rfl dX9_length_0 ?_
  refine j_iload_n C rfl 1 rfl dX9_length_1 ?_
  refine j_resr (k1 := 0) (n1 := 0) C (j_runV C (c_X9_wordAt (i := i) (a1 := a1) (by omega) (by omega) (by assumption)) gX9_length_X9_wordAt rfl hdV_X9_wordAt ⟨Nat.le_of_ble_eq_true rfl, Nat.le_of_ble_eq_true rfl⟩ ⟨Nat.le_of_ble_eq_true rfl, Nat.le_of_ble_eq_true rfl⟩ 0 rfl rfl rfl [0, 1] rfl (by decide) rfl (Nat.le_of_ble_eq_true rfl) dX9_length_2) (wr := [(a1, .inr (9, [.ref b1, .int (nI xs.length)]))]) [2] rfl (by decide) (by decide) (Nat.le_refl _) (Nat.le_refl _) (fun u9 a9 ha9 => ?_)
  subst ha9
  refine j_getf C (Cn := RX7) (T := TX7) (N := 2) fin_X9_length_RX7 0 rfl rfl 1 (by decide) (by decide +kernel) rfl dX9_length_5 ?_
  exact j_iret C rfl (rfl) (()) (rfl) [1, 2, 0] rfl (by decide) (Nat.le_of_ble_eq_true rfl) (Nat.le_of_ble_eq_true rfl) dX9_length_8
set_option maxHeartbeats 4000000 in
set_option maxRecDepth 100000 in
/-- length: no such word -/
theorem x_X9_length {l : Launch} {G : va_G} {cy : Nat → ClassId} (hl9 : l.stackTraces = false) {h ty aw dr se : Nat} {ad : Nat → Nat} {tn : Int32} {wn : Nat} {g : Nat → Option Nat} {i : Nat} (hi : wn ≤ i) (hi2 : i < 100) (hw : wn ≤ 24) : Kx l yX9_length wsX9_length G cy [.ref h, .int (nI i)] [(h, .inr (11, [.ref ty, .int tn, .ref aw, .int (nI wn), .ref (ad 4), .ref (ad 5), .ref (ad 6), .int (nI 0), .ref (ad 8), .int (nI 0), .ref dr, .ref se, .ref (ad 12), .ref (ad 13), .ref (ad 14), .ref (ad 15), .ref (ad 16), .ref (ad 17)])), (aw, .inl (cy 4, 24, .inr (.inr (.inr (.inr g)))))] "java/lang/IndexOutOfBoundsException" 7 1 6 121 := by
  refine Kx_of (cc := cX9_length) (nL := 2) (by decide) rfl (Nat.le_of_ble_eq_true rfl) ?_
  intro p e s m args below meth c A C hnm htb
  refine j_lo (lo1 := [(0, .ref h), (1, .int (nI i))]) [0, 1] rfl ?_
  refine j_aload_n C rfl 0 rfl dX9_length_0 ?_
  refine j_iload_n C rfl 1 rfl dX9_length_1 ?_
  refine j_resx (k1 := 1) (n1 := 6) C (j_runX C (x_X9_wordAt hl9 hi hi2 hw) gX9_length_X9_wordAt rfl hdV_X9_wordAt ⟨Nat.le_of_ble_eq_true rfl, Nat.le_of_ble_eq_true rfl⟩ ⟨Nat.le_of_ble_eq_true rfl, Nat.le_of_ble_eq_true rfl⟩ 0 rfl rfl rfl [0, 1] rfl (by decide) rfl (Nat.le_of_ble_eq_true rfl) dX9_length_2) (wr := []) [] rfl (by decide) (by decide) (Nat.le_refl _) (Nat.le_refl _) ?_
  exact j_out C htb [0, 1] rfl (by decide) (Nat.le_of_ble_eq_true rfl) (Nat.le_of_ble_eq_true rfl)
set_option maxRecDepth 100000 in
theorem fin_X9_letter_RX7 : ∀ w ∈ u_ws RX7 TX7 2, w ∈ wsX9_letter := by decide +kernel
set_option maxHeartbeats 4000000 in
set_option maxRecDepth 100000 in
/-- letter -/
theorem c_X9_letter {l : Launch} {G : va_G} {cy : Nat → ClassId} {h ty aw dr se : Nat} {ad : Nat → Nat} {tn : Int32} {wn : Nat} {g : Nat → Option Nat} {a1 b1 i : Nat} {xs : List Nat} {f1 : Nat → Int32} {k : Nat} (hw : wn ≤ 24) (hi : i < wn) (hg1 : g i = some a1) (h16 : L6 xs) (hf1 : Hd f1 xs) (hx60 : xs.length ≤ 60) (hk : k < xs.length) : Ki l yX9_letter wsX9_letter G cy [.ref h, .int (nI i), .int (nI k)] [(h, .inr (11, [.ref ty, .int tn, .ref aw, .int (nI wn), .ref (ad 4), .ref (ad 5), .ref (ad 6), .int (nI 0), .ref (ad 8), .int (nI 0), .ref dr, .ref se, .ref (ad 12), .ref (ad 13), .ref (ad 14), .ref (ad 15), .ref (ad 16), .ref (ad 17)])), (aw, .inl (cy 4, 24, .inr (.inr (.inr (.inr g))))), (a1, .inr (9, [.ref b1, .int (nI xs.length)])), (b1, .inl (cy 0, 60, .inl f1))] (fun (v : Int32) (_ : Unit) => v = sg (gd xs k)) (fun _ => [(h, .inr (11, [.ref ty, .int tn, .ref aw, .int (nI wn), .ref (ad 4), .ref (ad 5), .ref (ad 6), .int (nI 0), .ref (ad 8), .int (nI 0), .ref dr, .ref se, .ref (ad 12), .ref (ad 13), .ref (ad 14), .ref (ad 15), .ref (ad 16), .ref (ad 17)])), (aw, .inl (cy 4, 24, .inr (.inr (.inr (.inr g))))), (a1, .inr (9, [.ref b1, .int (nI xs.length)])), (b1, .inl (cy 0, 60, .inl f1))]) 1 0 0 21 := by
  refine Ki_of (cc := cX9_letter) (nL := 4) (by decide) rfl (Nat.le_of_ble_eq_true rfl) ?_
  intro p e s m args below meth c A C hnm
  refine j_lo (lo1 := [(0, .ref h), (1, .int (nI i)), (2, .int (nI k))]) [0, 1, 2] rfl ?_
  refine j_aload_n C rfl 0 rfl dX9_letter_0 ?_
  refine j_iload_n C rfl 1 rfl dX9_letter_1 ?_
  refine j_resr (k1 := 0) (n1 := 0) C (j_runV C (c_X9_wordAt (i := i) (a1 := a1) (by omega) (by omega) (by assumption)) gX9_letter_X9_wordAt rfl hdV_X9_wordAt ⟨Nat.le_of_ble_eq_true rfl, Nat.le_of_ble_eq_true rfl⟩ ⟨Nat.le_of_ble_eq_true rfl, Nat.le_of_ble_eq_true rfl⟩ 0 rfl rfl rfl [0, 1] rfl (by decide) rfl (Nat.le_of_ble_eq_true rfl) dX9_letter_2) (wr := [(a1, .inr (9, [.ref b1, .int (nI xs.length)])), (b1, .inl (cy 0, 60, .inl f1))]) [2, 3] rfl (by decide) (by decide) (Nat.le_refl _) (Nat.le_refl _) (fun u9 a9 ha9 => ?_)
  subst ha9
  refine j_astore_n C (lo1 := [(3, .ref a1), (0, .ref h), (1, .int (nI i)), (2, .int (nI k))]) rfl (by decide) rfl dX9_letter_5 ?_
  refine j_iload_n C rfl 3 rfl dX9_letter_6 ?_
  refine j_if_lt C (P := False) (fx_lt0 (by omega)) (tgt := 18) (by decide) dX9_letter_7 (fun ht => absurd ht (id)) (fun hq => ?_)
  refine j_iload_n C rfl 3 rfl dX9_letter_10 ?_
  refine j_aload_n C rfl 0 rfl dX9_letter_11 ?_
  refine j_getf C (Cn := RX7) (T := TX7) (N := 2) fin_X9_letter_RX7 0 rfl rfl 1 (by decide) (by decide +kernel) rfl dX9_letter_12 ?_
  refine j_icmp_lt C (P := k < xs.length) (nI_ltI (by omega) (by omega)) (tgt := 28) (by decide) dX9_letter_15 (fun ht => ?_) (fun hq => absurd hq (by omega))
  have hl6 := h16 k (by omega)
  refine j_gsg C (by decide +kernel) dX9_letter_28 (fun t9 hT => ?_)
  refine j_aload_n C rfl 0 rfl dX9_letter_31 ?_
  refine j_getf C (Cn := RX7) (T := TX7) (N := 2) fin_X9_letter_RX7 0 rfl rfl 0 (by decide) (by decide +kernel) rfl dX9_letter_32 ?_
  refine j_iload_n C rfl 3 rfl dX9_letter_35 ?_
  refine j_bald C 1 rfl (j := k) (by omega) (by omega) (v := (nI (gd xs k))) (hf1 k (by omega)) dX9_letter_36 ?_
  refine j_cald C hT (j := gd xs k) (by omega) (by omega) (v := .int (sg (gd xs k))) (sg_fz _) dX9_letter_37 ?_
  exact j_iret C rfl (sg_nar _ hl6) (()) (rfl) [2, 3, 0, 1] rfl (by decide) (Nat.le_of_ble_eq_true rfl) (Nat.le_of_ble_eq_true rfl) dX9_letter_38
theorem hdV_X7_orderTo : yX7_orderTo.cls = RX7 ∧ yX7_orderTo.cls ≠ "java/lang/invoke/MethodHandle" ∧ yX7_orderTo.cls ≠ "java/lang/invoke/VarHandle" ∧ (parseMethodDescriptor yX7_orderTo.desc).map (fun d => d.parameters.length) = some 1 := by decide +kernel
set_option maxHeartbeats 4000000 in
set_option maxRecDepth 100000 in
/-- compare -/
theorem c_X9_compare {l : Launch} {G : va_G} {cy : Nat → ClassId} {h ty aw dr se : Nat} {ad : Nat → Nat} {tn : Int32} {wn : Nat} {g : Nat → Option Nat} {a1 b1 i : Nat} {xs : List Nat} {f1 : Nat → Int32} {a2 b2 j : Nat} {ys : List Nat} {f2 : Nat → Int32} (hw : wn ≤ 24) (hi : i < wn) (hg1 : g i = some a1) (h16 : L6 xs) (hf1 : Hd f1 xs) (hx60 : xs.length ≤ 60) (hj : j < wn) (hg2 : g j = some a2) (h26 : L6 ys) (hf2 : Hd f2 ys) (hy60 : ys.length ≤ 60)  : Ki l yX9_compare wsX9_compare G cy [.ref h, .int (nI i), .int (nI j)] [(h, .inr (11, [.ref ty, .int tn, .ref aw, .int (nI wn), .ref (ad 4), .ref (ad 5), .ref (ad 6), .int (nI 0), .ref (ad 8), .int (nI 0), .ref dr, .ref se, .ref (ad 12), .ref (ad 13), .ref (ad 14), .ref (ad 15), .ref (ad 16), .ref (ad 17)])), (aw, .inl (cy 4, 24, .inr (.inr (.inr (.inr g))))), (a1, .inr (9, [.ref b1, .int (nI xs.length)])), (b1, .inl (cy 0, 60, .inl f1)), (a2, .inr (9, [.ref b2, .int (nI ys.length)])), (b2, .inl (cy 0, 60, .inl f2))] (fun (v : Int32) (_ : Unit) => v = fo xs ys) (fun _ => [(h, .inr (11, [.ref ty, .int tn, .ref aw, .int (nI wn), .ref (ad 4), .ref (ad 5), .ref (ad 6), .int (nI 0), .ref (ad 8), .int (nI 0), .ref dr, .ref se, .ref (ad 12), .ref (ad 13), .ref (ad 14), .ref (ad 15), .ref (ad 16), .ref (ad 17)])), (aw, .inl (cy 4, 24, .inr (.inr (.inr (.inr g))))), (a1, .inr (9, [.ref b1, .int (nI xs.length)])), (b1, .inl (cy 0, 60, .inl f1)), (a2, .inr (9, [.ref b2, .int (nI ys.length)])), (b2, .inl (cy 0, 60, .inl f2))]) 1 0 0 22 := by
  refine Ki_of (cc := cX9_compare) (nL := 3) (by decide) rfl (Nat.le_of_ble_eq_true rfl) ?_
  intro p e s m args below meth c A C hnm
  refine j_lo (lo1 := [(0, .ref h), (1, .int (nI i)), (2, .int (nI j))]) [0, 1, 2] rfl ?_
  refine j_aload_n C rfl 0 rfl dX9_compare_0 ?_
  refine j_iload_n C rfl 1 rfl dX9_compare_1 ?_
  refine j_resr (k1 := 0) (n1 := 0) C (j_runV C (c_X9_wordAt (i := i) (a1 := a1) (by omega) (by omega) (by assumption)) gX9_compare_X9_wordAt rfl hdV_X9_wordAt ⟨Nat.le_of_ble_eq_true rfl, Nat.le_of_ble_eq_true rfl⟩ ⟨Nat.le_of_ble_eq_true rfl, Nat.le_of_ble_eq_true rfl⟩ 0 rfl rfl rfl [0, 1] rfl (by decide) rfl (Nat.le_of_ble_eq_true rfl) dX9_compare_2) (wr := [(a1, .inr (9, [.ref b1, .int (nI xs.length)])), (b1, .inl (cy 0, 60, .inl f1)), (a2, .inr (9, [.ref b2, .int (nI ys.length)])), (b2, .inl (cy 0, 60, .inl f2))]) [2, 3, 4, 5] rfl (by decide) (by decide) (Nat.le_refl _) (Nat.le_refl _) (fun u9 a9 ha9 => ?_)
  subst ha9
  refine j_aload_n C rfl 0 rfl dX9_compare_5 ?_
  refine j_iload_n C rfl 2 rfl dX9_compare_6 ?_
  refine j_resr (k1 := 0) (n1 := 0) C (j_runV C (c_X9_wordAt (i := j) (a1 := a2) (by omega) (by omega) (by assumption)) gX9_compare_X9_wordAt rfl hdV_X9_wordAt ⟨Nat.le_of_ble_eq_true rfl, Nat.le_of_ble_eq_true rfl⟩ ⟨Nat.le_of_ble_eq_true rfl, Nat.le_of_ble_eq_true rfl⟩ 4 rfl rfl rfl [4, 5] rfl (by decide) rfl (Nat.le_of_ble_eq_true rfl) dX9_compare_7) (wr := [(a1, .inr (9, [.ref b1, .int (nI xs.length)])), (b1, .inl (cy 0, 60, .inl f1)), (a2, .inr (9, [.ref b2, .int (nI ys.length)])), (b2, .inl (cy 0, 60, .inl f2))]) [0, 1, 2, 3] rfl (by decide) (by decide) (Nat.le_refl _) (Nat.le_refl _) (fun u9 a9 ha9 => ?_)
  subst ha9
  refine j_resi (k1 := 0) (n1 := 0) C (j_runV C (c_X7_orderTo (by decide : 60 < 2 ^ 20) (by decide : 60 < 2 ^ 20) h16 h26 hf1 hf2 hx60 hy60) gX9_compare_X7_orderTo rfl hdV_X7_orderTo ⟨Nat.le_of_ble_eq_true rfl, Nat.le_of_ble_eq_true rfl⟩ ⟨Nat.le_of_ble_eq_true rfl, Nat.le_of_ble_eq_true rfl⟩ 0 rfl rfl rfl [0, 1, 2, 3] rfl (by decide) rfl (Nat.le_of_ble_eq_true rfl) dX9_compare_10) (wr := [(h, .inr (11, [.ref ty, .int tn, .ref aw, .int (nI wn), .ref (ad 4), .ref (ad 5), .ref (ad 6), .int (nI 0), .ref (ad 8), .int (nI 0), .ref dr, .ref se, .ref (ad 12), .ref (ad 13), .ref (ad 14), .ref (ad 15), .ref (ad 16), .ref (ad 17)])), (aw, .inl (cy 4, 24, .inr (.inr (.inr (.inr g)))))]) [4, 5] rfl (by decide) (by decide) (Nat.le_refl _) (Nat.le_refl _) (fun v u hv => ?_)
  exact j_iret C rfl (rfl) (()) (hv) [0, 1, 2, 3, 4, 5] rfl (by decide) (Nat.le_of_ble_eq_true rfl) (Nat.le_of_ble_eq_true rfl) dX9_compare_13
set_option maxHeartbeats 4000000 in
set_option maxRecDepth 100000 in
/-- compare: a word with itself -/
theorem c_X9_compare0 {l : Launch} {G : va_G} {cy : Nat → ClassId} {h ty aw dr se : Nat} {ad : Nat → Nat} {tn : Int32} {wn : Nat} {g : Nat → Option Nat} {a1 b1 i : Nat} {xs : List Nat} {f1 : Nat → Int32} (hw : wn ≤ 24) (hi : i < wn) (hg1 : g i = some a1) (h16 : L6 xs) (hf1 : Hd f1 xs) (hx60 : xs.length ≤ 60)  : Ki l yX9_compare wsX9_compare G cy [.ref h, .int (nI i), .int (nI i)] [(h, .inr (11, [.ref ty, .int tn, .ref aw, .int (nI wn), .ref (ad 4), .ref (ad 5), .ref (ad 6), .int (nI 0), .ref (ad 8), .int (nI 0), .ref dr, .ref se, .ref (ad 12), .ref (ad 13), .ref (ad 14), .ref (ad 15), .ref (ad 16), .ref (ad 17)])), (aw, .inl (cy 4, 24, .inr (.inr (.inr (.inr g))))), (a1, .inr (9, [.ref b1, .int (nI xs.length)])), (b1, .inl (cy 0, 60, .inl f1))] (fun (v : Int32) (_ : Unit) => v = 0) (fun _ => [(h, .inr (11, [.ref ty, .int tn, .ref aw, .int (nI wn), .ref (ad 4), .ref (ad 5), .ref (ad 6), .int (nI 0), .ref (ad 8), .int (nI 0), .ref dr, .ref se, .ref (ad 12), .ref (ad 13), .ref (ad 14), .ref (ad 15), .ref (ad 16), .ref (ad 17)])), (aw, .inl (cy 4, 24, .inr (.inr (.inr (.inr g))))), (a1, .inr (9, [.ref b1, .int (nI xs.length)])), (b1, .inl (cy 0, 60, .inl f1))]) 1 0 0 22 := by
  refine Ki_of (cc := cX9_compare) (nL := 3) (by decide) rfl (Nat.le_of_ble_eq_true rfl) ?_
  intro p e s m args below meth c A C hnm
  refine j_lo (lo1 := [(0, .ref h), (1, .int (nI i)), (2, .int (nI i))]) [0, 1, 2] rfl ?_
  refine j_aload_n C rfl 0 rfl dX9_compare_0 ?_
  refine j_iload_n C rfl 1 rfl dX9_compare_1 ?_
  refine j_resr (k1 := 0) (n1 := 0) C (j_runV C (c_X9_wordAt (i := i) (a1 := a1) (by omega) (by omega) (by assumption)) gX9_compare_X9_wordAt rfl hdV_X9_wordAt ⟨Nat.le_of_ble_eq_true rfl, Nat.le_of_ble_eq_true rfl⟩ ⟨Nat.le_of_ble_eq_true rfl, Nat.le_of_ble_eq_true rfl⟩ 0 rfl rfl rfl [0, 1] rfl (by decide) rfl (Nat.le_of_ble_eq_true rfl) dX9_compare_2) (wr := [(a1, .inr (9, [.ref b1, .int (nI xs.length)])), (b1, .inl (cy 0, 60, .inl f1))]) [2, 3] rfl (by decide) (by decide) (Nat.le_refl _) (Nat.le_refl _) (fun u9 a9 ha9 => ?_)
  subst ha9
  refine j_aload_n C rfl 0 rfl dX9_compare_5 ?_
  refine j_iload_n C rfl 2 rfl dX9_compare_6 ?_
  refine j_resr (k1 := 0) (n1 := 0) C (j_runV C (c_X9_wordAt (i := i) (a1 := a1) (by omega) (by omega) (by assumption)) gX9_compare_X9_wordAt rfl hdV_X9_wordAt ⟨Nat.le_of_ble_eq_true rfl, Nat.le_of_ble_eq_true rfl⟩ ⟨Nat.le_of_ble_eq_true rfl, Nat.le_of_ble_eq_true rfl⟩ 2 rfl rfl rfl [2, 3] rfl (by decide) rfl (Nat.le_of_ble_eq_true rfl) dX9_compare_7) (wr := [(a1, .inr (9, [.ref b1, .int (nI xs.length)])), (b1, .inl (cy 0, 60, .inl f1))]) [0, 1] rfl (by decide) (by decide) (Nat.le_refl _) (Nat.le_refl _) (fun u9 a9 ha9 => ?_)
  subst ha9
  refine j_resi (k1 := 0) (n1 := 0) C (j_runV C (c_X7_orderTo0 (by decide : 60 < 2 ^ 20) h16 hf1 hx60) gX9_compare_X7_orderTo rfl hdV_X7_orderTo ⟨Nat.le_of_ble_eq_true rfl, Nat.le_of_ble_eq_true rfl⟩ ⟨Nat.le_of_ble_eq_true rfl, Nat.le_of_ble_eq_true rfl⟩ 0 rfl rfl rfl [0, 1] rfl (by decide) rfl (Nat.le_of_ble_eq_true rfl) dX9_compare_10) (wr := [(h, .inr (11, [.ref ty, .int tn, .ref aw, .int (nI wn), .ref (ad 4), .ref (ad 5), .ref (ad 6), .int (nI 0), .ref (ad 8), .int (nI 0), .ref dr, .ref se, .ref (ad 12), .ref (ad 13), .ref (ad 14), .ref (ad 15), .ref (ad 16), .ref (ad 17)])), (aw, .inl (cy 4, 24, .inr (.inr (.inr (.inr g)))))]) [2, 3] rfl (by decide) (by decide) (Nat.le_refl _) (Nat.le_refl _) (fun v u hv => ?_)
  exact j_iret C rfl (rfl) (()) (hv) [0, 1, 2, 3] rfl (by decide) (Nat.le_of_ble_eq_true rfl) (Nat.le_of_ble_eq_true rfl) dX9_compare_13
set_option maxHeartbeats 4000000 in
set_option maxRecDepth 100000 in
/-- compare: no such word -/
theorem x_X9_compare {l : Launch} {G : va_G} {cy : Nat → ClassId} (hl9 : l.stackTraces = false) {h ty aw dr se : Nat} {ad : Nat → Nat} {tn : Int32} {wn : Nat} {g : Nat → Option Nat} {a1 i j : Nat} (hw : wn ≤ 24) (hi : i < wn) (hg1 : g i = some a1) (hj : wn ≤ j) (hj2 : j < 100) : Kx l yX9_compare wsX9_compare G cy [.ref h, .int (nI i), .int (nI j)] [(h, .inr (11, [.ref ty, .int tn, .ref aw, .int (nI wn), .ref (ad 4), .ref (ad 5), .ref (ad 6), .int (nI 0), .ref (ad 8), .int (nI 0), .ref dr, .ref se, .ref (ad 12), .ref (ad 13), .ref (ad 14), .ref (ad 15), .ref (ad 16), .ref (ad 17)])), (aw, .inl (cy 4, 24, .inr (.inr (.inr (.inr g)))))] "java/lang/IndexOutOfBoundsException" 7 1 6 121 := by
  refine Kx_of (cc := cX9_compare) (nL := 3) (by decide) rfl (Nat.le_of_ble_eq_true rfl) ?_
  intro p e s m args below meth c A C hnm htb
  refine j_lo (lo1 := [(0, .ref h), (1, .int (nI i)), (2, .int (nI j))]) [0, 1, 2] rfl ?_
  refine j_aload_n C rfl 0 rfl dX9_compare_0 ?_
  refine j_iload_n C rfl 1 rfl dX9_compare_1 ?_
  refine j_resr (k1 := 0) (n1 := 0) C (j_runV C (c_X9_wordAt (i := i) (a1 := a1) (by omega) (by omega) (by assumption)) gX9_compare_X9_wordAt rfl hdV_X9_wordAt ⟨Nat.le_of_ble_eq_true rfl, Nat.le_of_ble_eq_true rfl⟩ ⟨Nat.le_of_ble_eq_true rfl, Nat.le_of_ble_eq_true rfl⟩ 0 rfl rfl rfl [0, 1] rfl (by decide) rfl (Nat.le_of_ble_eq_true rfl) dX9_compare_2) (wr := []) [] rfl (by decide) (by decide) (Nat.le_refl _) (Nat.le_refl _) (fun u9 a9 ha9 => ?_)
  subst ha9
  refine j_aload_n C rfl 0 rfl dX9_compare_5 ?_
  refine j_iload_n C rfl 2 rfl dX9_compare_6 ?_
  refine j_resx (k1 := 1) (n1 := 6) C (j_runX C (x_X9_wordAt hl9 hj hj2 hw) gX9_compare_X9_wordAt rfl hdV_X9_wordAt ⟨Nat.le_of_ble_eq_true rfl, Nat.le_of_ble_eq_true rfl⟩ ⟨Nat.le_of_ble_eq_true rfl, Nat.le_of_ble_eq_true rfl⟩ 0 rfl rfl rfl [0, 1] rfl (by decide) rfl (Nat.le_of_ble_eq_true rfl) dX9_compare_7) (wr := []) [] rfl (by decide) (by decide) (Nat.le_refl _) (Nat.le_refl _) ?_
  exact j_out C htb [0, 1] rfl (by decide) (Nat.le_of_ble_eq_true rfl) (Nat.le_of_ble_eq_true rfl)
theorem hdV_X7_addRow : yX7_addRow.cls = RX7 ∧ yX7_addRow.cls ≠ "java/lang/invoke/MethodHandle" ∧ yX7_addRow.cls ≠ "java/lang/invoke/VarHandle" ∧ (parseMethodDescriptor yX7_addRow.desc).map (fun d => d.parameters.length) = some 1 := by decide +kernel
set_option maxHeartbeats 4000000 in
set_option maxRecDepth 100000 in
/-- setProduct -/
theorem c_X9_setProduct {l : Launch} {G : va_G} {cy : Nat → ClassId} {r rl a1 b1 a2 b2 : Nat} {rz : Int32} {xs ys : List Nat} {rf f1 f2 : Nat → Int32} (h16 : L6 xs) (hf1 : Hd f1 xs) (hx60 : xs.length ≤ 60) (h26 : L6 ys) (hf2 : Hd f2 ys) (hy60 : ys.length ≤ 60) : Kv l yX9_setProduct wsX9_setProduct G cy [.ref r, .ref a1, .ref a2] [(r, .inr (9, [.ref rl, .int rz])), (rl, .inl (cy 0, 3600, .inl rf)), (a1, .inr (9, [.ref b1, .int (nI xs.length)])), (b1, .inl (cy 0, 60, .inl f1)), (a2, .inr (9, [.ref b2, .int (nI ys.length)])), (b2, .inl (cy 0, 60, .inl f2))] (fun q : Nat → Int32 => Hd q (red (xs ++ ys))) (fun q => [(r, .inr (9, [.ref rl, .int (nI ((red (xs ++ ys)).length))])), (rl, .inl (cy 0, 3600, .inl q)), (a1, .inr (9, [.ref b1, .int (nI xs.length)])), (b1, .inl (cy 0, 60, .inl f1)), (a2, .inr (9, [.ref b2, .int (nI ys.length)])), (b2, .inl (cy 0, 60, .inl f2))]) 2 0 0 44 := by
  refine Kv_of (cc := cX9_setProduct) (nL := 3) (by decide) rfl (Nat.le_of_ble_eq_true rfl) ?_
  intro p e s m args below meth c A C hnm
  refine j_lo (lo1 := [(0, .ref r), (1, .ref a1), (2, .ref a2)]) [0, 1, 2] rfl ?_
  refine j_aload_n C rfl 0 rfl dX9_setProduct_0 ?_
  refine j_resv (k1 := 0) (n1 := 0) C (j_runV C (c_X7_clear) gX9_setProduct_X7_clear rfl hdV_X7_clear ⟨Nat.le_of_ble_eq_true rfl, Nat.le_of_ble_eq_true rfl⟩ ⟨Nat.le_of_ble_eq_true rfl, Nat.le_of_ble_eq_true rfl⟩ 0 rfl rfl rfl [0] rfl (by decide) rfl (Nat.le_of_ble_eq_true rfl) dX9_setProduct_1) (wr := [(rl, .inl (cy 0, 3600, .inl rf)), (a1, .inr (9, [.ref b1, .int (nI xs.length)])), (b1, .inl (cy 0, 60, .inl f1)), (a2, .inr (9, [.ref b2, .int (nI ys.length)])), (b2, .inl (cy 0, 60, .inl f2))]) [1, 2, 3, 4, 5] rfl (by decide) (by decide) (Nat.le_refl _) (Nat.le_refl _) (fun u9 _ => ?_)
  refine j_aload_n C rfl 0 rfl dX9_setProduct_4 ?_
  refine j_aload_n C rfl 1 rfl dX9_setProduct_5 ?_
  refine j_resv (k1 := 0) (n1 := 0) C (j_runV C (c_X7_addRow (xs := []) (ys := xs) (by decide : 3600 < 2 ^ 20) (by decide : 60 < 2 ^ 20) (by show 0 + xs.length ≤ 3600; omega) L6_nil h16 (Hd_nil rf) hf1 hx60) gX9_setProduct_X7_addRow rfl hdV_X7_addRow ⟨Nat.le_of_ble_eq_true rfl, Nat.le_of_ble_eq_true rfl⟩ ⟨Nat.le_of_ble_eq_true rfl, Nat.le_of_ble_eq_true rfl⟩ 5 rfl rfl rfl [5, 0, 1, 2] rfl (by decide) rfl (Nat.le_of_ble_eq_true rfl) dX9_setProduct_6) (wr := [(a2, .inr (9, [.ref b2, .int (nI ys.length)])), (b2, .inl (cy 0, 60, .inl f2))]) [3, 4] rfl (by decide) (by decide) (Nat.le_refl _) (Nat.le_refl _) (fun q1 hq1 => ?_)
  refine j_aload_n C rfl 0 rfl dX9_setProduct_9 ?_
  refine j_aload_n C rfl 2 rfl dX9_setProduct_10 ?_
  have hl1 := act_len xs []
  rw [List.length_nil] at hl1
  refine j_resv (k1 := 0) (n1 := 0) C (j_runV C (c_X7_addRow (xs := act [] xs) (ys := ys) (by decide : 3600 < 2 ^ 20) (by decide : 60 < 2 ^ 20) (by omega) (L6_act _ L6_nil h16) h26 hq1 hf2 hy60) gX9_setProduct_X7_addRow rfl hdV_X7_addRow ⟨Nat.le_of_ble_eq_true rfl, Nat.le_of_ble_eq_true rfl⟩ ⟨Nat.le_of_ble_eq_true rfl, Nat.le_of_ble_eq_true rfl⟩ 2 rfl rfl rfl [2, 3, 0, 1] rfl (by decide) rfl (Nat.le_of_ble_eq_true rfl) dX9_setProduct_11) (wr := [(a1, .inr (9, [.ref b1, .int (nI xs.length)])), (b1, .inl (cy 0, 60, .inl f1))]) [4, 5] rfl (by decide) (by decide) (Nat.le_refl _) (Nat.le_refl _) (fun q2 hq2 => ?_)
  have hpr : act (act [] xs) ys = red (xs ++ ys) := (act_app [] xs ys).symm
  rw [hpr] at hq2 ⊢
  exact j_vret C (q2) (hq2) [2, 3, 0, 1, 4, 5] rfl (by decide) (Nat.le_of_ble_eq_true rfl) (Nat.le_of_ble_eq_true rfl) dX9_setProduct_14
set_option maxRecDepth 100000 in
theorem fin_X9_product_RX9 : ∀ w ∈ u_ws RX9 TX9 18, w ∈ wsX9_product := by decide +kernel
theorem hdS_X9_setProduct : yX9_setProduct.cls ≠ "java/lang/invoke/MethodHandle" ∧ yX9_setProduct.cls ≠ "java/lang/invoke/VarHandle" ∧ (parseMethodDescriptor yX9_setProduct.desc).map (fun d => d.parameters.length) = some 3 := by decide +kernel
set_option maxHeartbeats 4000000 in
set_option maxRecDepth 100000 in
/-- product -/
theorem c_X9_product {l : Launch} {G : va_G} {cy : Nat → ClassId} {h ty aw dr se : Nat} {ad : Nat → Nat} {tn : Int32} {wn : Nat} {g : Nat → Option Nat} {a1 b1 i : Nat} {xs : List Nat} {f1 : Nat → Int32} {a2 b2 j : Nat} {ys : List Nat} {f2 : Nat → Int32} {dl d db : Nat} {dz dn : Int32} {df ef : Nat → Int32} (hw : wn ≤ 24) (hi : i < wn) (hg1 : g i = some a1) (h16 : L6 xs) (hf1 : Hd f1 xs) (hx60 : xs.length ≤ 60) (hj : j < wn) (hg2 : g j = some a2) (h26 : L6 ys) (hf2 : Hd f2 ys) (hy60 : ys.length ≤ 60) (hw4 : wn < 24) (hgd : g wn = some d) (hs60 : xs.length + ys.length ≤ 60) : Ki l yX9_product wsX9_product G cy [.ref h, .int (nI i), .int (nI j)] [(h, .inr (11, [.ref ty, .int tn, .ref aw, .int (nI wn), .ref (ad 4), .ref (ad 5), .ref (ad 6), .int (nI 0), .ref (ad 8), .int (nI 0), .ref dr, .ref se, .ref (ad 12), .ref (ad 13), .ref (ad 14), .ref (ad 15), .ref (ad 16), .ref (ad 17)])), (aw, .inl (cy 4, 24, .inr (.inr (.inr (.inr g))))), (dr, .inr (9, [.ref dl, .int dz])), (dl, .inl (cy 0, 3600, .inl df)), (a1, .inr (9, [.ref b1, .int (nI xs.length)])), (b1, .inl (cy 0, 60, .inl f1)), (a2, .inr (9, [.ref b2, .int (nI ys.length)])), (b2, .inl (cy 0, 60, .inl f2)), (d, .inr (9, [.ref db, .int dn])), (db, .inl (cy 0, 60, .inl ef))] (fun (v : Int32) (u : (Nat → Int32) × (Nat → Int32)) => v = nI wn ∧ Hd u.1 (red (xs ++ ys)) ∧ Hd u.2 (red (xs ++ ys))) (fun u => [(h, .inr (11, [.ref ty, .int tn, .ref aw, .int (nI (wn + 1)), .ref (ad 4), .ref (ad 5), .ref (ad 6), .int (nI 0), .ref (ad 8), .int (nI 0), .ref dr, .ref se, .ref (ad 12), .ref (ad 13), .ref (ad 14), .ref (ad 15), .ref (ad 16), .ref (ad 17)])), (aw, .inl (cy 4, 24, .inr (.inr (.inr (.inr g))))), (dr, .inr (9, [.ref dl, .int (nI ((red (xs ++ ys)).length))])), (dl, .inl (cy 0, 3600, .inl u.1)), (a1, .inr (9, [.ref b1, .int (nI xs.length)])), (b1, .inl (cy 0, 60, .inl f1)), (a2, .inr (9, [.ref b2, .int (nI ys.length)])), (b2, .inl (cy 0, 60, .inl f2)), (d, .inr (9, [.ref db, .int (nI ((red (xs ++ ys)).length))])), (db, .inl (cy 0, 60, .inl u.2))]) 3 0 0 66 := by
  refine Ki_of (cc := cX9_product) (nL := 3) (by decide) rfl (Nat.le_of_ble_eq_true rfl) ?_
  intro p e s m args below meth c A C hnm
  refine j_lo (lo1 := [(0, .ref h), (1, .int (nI i)), (2, .int (nI j))]) [0, 1, 2] rfl ?_
  refine j_aload_n C rfl 0 rfl dX9_product_0 ?_
  refine j_getf C (Cn := RX9) (T := TX9) (N := 18) fin_X9_product_RX9 0 rfl rfl 10 (by decide) (by decide +kernel) rfl dX9_product_1 ?_
  refine j_aload_n C rfl 0 rfl dX9_product_4 ?_
  refine j_iload_n C rfl 1 rfl dX9_product_5 ?_
  refine j_resr (k1 := 0) (n1 := 0) C (j_runV C (c_X9_wordAt (i := i) (a1 := a1) (by omega) (by omega) (by assumption)) gX9_product_X9_wordAt rfl hdV_X9_wordAt ⟨Nat.le_of_ble_eq_true rfl, Nat.le_of_ble_eq_true rfl⟩ ⟨Nat.le_of_ble_eq_true rfl, Nat.le_of_ble_eq_true rfl⟩ 0 rfl rfl rfl [0, 1] rfl (by decide) rfl (Nat.le_of_ble_eq_true rfl) dX9_product_6) (wr := [(dr, .inr (9, [.ref dl, .int dz])), (dl, .inl (cy 0, 3600, .inl df)), (a1, .inr (9, [.ref b1, .int (nI xs.length)])), (b1, .inl (cy 0, 60, .inl f1)), (a2, .inr (9, [.ref b2, .int (nI ys.length)])), (b2, .inl (cy 0, 60, .inl f2)), (d, .inr (9, [.ref db, .int dn])), (db, .inl (cy 0, 60, .inl ef))]) [2, 3, 4, 5, 6, 7, 8, 9] rfl (by decide) (by decide) (Nat.le_refl _) (Nat.le_refl _) (fun u9 a9 ha9 => ?_)
  subst ha9
  refine j_aload_n C rfl 0 rfl dX9_product_9 ?_
  refine j_iload_n C rfl 2 rfl dX9_product_10 ?_
  refine j_resr (k1 := 0) (n1 := 0) C (j_runV C (c_X9_wordAt (i := j) (a1 := a2) (by omega) (by omega) (by assumption)) gX9_product_X9_wordAt rfl hdV_X9_wordAt ⟨Nat.le_of_ble_eq_true rfl, Nat.le_of_ble_eq_true rfl⟩ ⟨Nat.le_of_ble_eq_true rfl, Nat.le_of_ble_eq_true rfl⟩ 8 rfl rfl rfl [8, 9] rfl (by decide) rfl (Nat.le_of_ble_eq_true rfl) dX9_product_11) (wr := [(dr, .inr (9, [.ref dl, .int dz])), (dl, .inl (cy 0, 3600, .inl df)), (a1, .inr (9, [.ref b1, .int (nI xs.length)])), (b1, .inl (cy 0, 60, .inl f1)), (a2, .inr (9, [.ref b2, .int (nI ys.length)])), (b2, .inl (cy 0, 60, .inl f2)), (d, .inr (9, [.ref db, .int dn])), (db, .inl (cy 0, 60, .inl ef))]) [0, 1, 2, 3, 4, 5, 6, 7] rfl (by decide) (by decide) (Nat.le_refl _) (Nat.le_refl _) (fun u9 a9 ha9 => ?_)
  subst ha9
  refine j_resv (k1 := 0) (n1 := 0) C (j_runS C (c_X9_setProduct h16 hf1 hx60 h26 hf2 hy60) gX9_product_X9_setProduct rfl hdS_X9_setProduct ⟨Nat.le_of_ble_eq_true rfl, Nat.le_of_ble_eq_true rfl⟩ ⟨Nat.le_of_ble_eq_true rfl, Nat.le_of_ble_eq_true rfl⟩ [0, 1, 2, 3, 4, 5] rfl (by decide) rfl (Nat.le_of_ble_eq_true rfl) dX9_product_14) (wr := [(d, .inr (9, [.ref db, .int dn])), (db, .inl (cy 0, 60, .inl ef)), (h, .inr (11, [.ref ty, .int tn, .ref aw, .int (nI wn), .ref (ad 4), .ref (ad 5), .ref (ad 6), .int (nI 0), .ref (ad 8), .int (nI 0), .ref dr, .ref se, .ref (ad 12), .ref (ad 13), .ref (ad 14), .ref (ad 15), .ref (ad 16), .ref (ad 17)])), (aw, .inl (cy 4, 24, .inr (.inr (.inr (.inr g)))))]) [6, 7, 8, 9] rfl (by decide) (by decide) (Nat.le_refl _) (Nat.le_refl _) (fun q hq => ?_)
  have hrl := red_len (xs ++ ys)
  rw [List.length_append] at hrl
  refine j_aload_n C rfl 0 rfl dX9_product_17 ?_
  refine j_aload_n C rfl 0 rfl dX9_product_18 ?_
  refine j_getf C (Cn := RX9) (T := TX9) (N := 18) fin_X9_product_RX9 2 rfl rfl 10 (by decide) (by decide +kernel) rfl dX9_product_19 ?_
  refine j_resi (k1 := 0) (n1 := 0) C (j_runV C (c_X9_keep (xs := red (xs ++ ys)) hw4 hgd (by decide) (by omega) (L6_red (L6_app h16 h26)) hq (by omega)) gX9_product_X9_keep rfl hdV_X9_keep ⟨Nat.le_of_ble_eq_true rfl, Nat.le_of_ble_eq_true rfl⟩ ⟨Nat.le_of_ble_eq_true rfl, Nat.le_of_ble_eq_true rfl⟩ 2 rfl rfl rfl [2, 3, 4, 5, 0, 1] rfl (by decide) rfl (Nat.le_of_ble_eq_true rfl) dX9_product_22) (wr := [(a1, .inr (9, [.ref b1, .int (nI xs.length)])), (b1, .inl (cy 0, 60, .inl f1)), (a2, .inr (9, [.ref b2, .int (nI ys.length)])), (b2, .inl (cy 0, 60, .inl f2))]) [6, 7, 8, 9] rfl (by decide) (by decide) (Nat.le_refl _) (Nat.le_refl _) (fun v e2 hv => ?_)
  obtain ⟨hv, he2⟩ := hv
  subst hv
  exact j_iret C rfl (rfl) ((q, e2)) (⟨rfl, hq, he2⟩) [4, 5, 6, 7, 0, 1, 2, 3, 8, 9] rfl (by decide) (Nat.le_of_ble_eq_true rfl) (Nat.le_of_ble_eq_true rfl) dX9_product_25
set_option maxRecDepth 100000 in
theorem fin_X9_inverse_RX9 : ∀ w ∈ u_ws RX9 TX9 18, w ∈ wsX9_inverse := by decide +kernel
theorem hdV_X7_addInverse : yX7_addInverse.cls = RX7 ∧ yX7_addInverse.cls ≠ "java/lang/invoke/MethodHandle" ∧ yX7_addInverse.cls ≠ "java/lang/invoke/VarHandle" ∧ (parseMethodDescriptor yX7_addInverse.desc).map (fun d => d.parameters.length) = some 1 := by decide +kernel
set_option maxHeartbeats 4000000 in
set_option maxRecDepth 100000 in
/-- inverse -/
theorem c_X9_inverse {l : Launch} {G : va_G} {cy : Nat → ClassId} {h ty aw dr se : Nat} {ad : Nat → Nat} {tn : Int32} {wn : Nat} {g : Nat → Option Nat} {a1 b1 i : Nat} {xs : List Nat} {f1 : Nat → Int32} {dl d db : Nat} {dz dn : Int32} {df ef : Nat → Int32} (hw : wn ≤ 24) (hi : i < wn) (hg1 : g i = some a1) (h16 : L6 xs) (hf1 : Hd f1 xs) (hx60 : xs.length ≤ 60) (hw4 : wn < 24) (hgd : g wn = some d)  : Ki l yX9_inverse wsX9_inverse G cy [.ref h, .int (nI i)] [(h, .inr (11, [.ref ty, .int tn, .ref aw, .int (nI wn), .ref (ad 4), .ref (ad 5), .ref (ad 6), .int (nI 0), .ref (ad 8), .int (nI 0), .ref dr, .ref se, .ref (ad 12), .ref (ad 13), .ref (ad 14), .ref (ad 15), .ref (ad 16), .ref (ad 17)])), (aw, .inl (cy 4, 24, .inr (.inr (.inr (.inr g))))), (dr, .inr (9, [.ref dl, .int dz])), (dl, .inl (cy 0, 3600, .inl df)), (a1, .inr (9, [.ref b1, .int (nI xs.length)])), (b1, .inl (cy 0, 60, .inl f1)), (d, .inr (9, [.ref db, .int dn])), (db, .inl (cy 0, 60, .inl ef))] (fun (v : Int32) (u : (Nat → Int32) × (Nat → Int32)) => v = nI wn ∧ Hd u.1 (red (iv xs)) ∧ Hd u.2 (red (iv xs))) (fun u => [(h, .inr (11, [.ref ty, .int tn, .ref aw, .int (nI (wn + 1)), .ref (ad 4), .ref (ad 5), .ref (ad 6), .int (nI 0), .ref (ad 8), .int (nI 0), .ref dr, .ref se, .ref (ad 12), .ref (ad 13), .ref (ad 14), .ref (ad 15), .ref (ad 16), .ref (ad 17)])), (aw, .inl (cy 4, 24, .inr (.inr (.inr (.inr g))))), (dr, .inr (9, [.ref dl, .int (nI ((red (iv xs)).length))])), (dl, .inl (cy 0, 3600, .inl u.1)), (a1, .inr (9, [.ref b1, .int (nI xs.length)])), (b1, .inl (cy 0, 60, .inl f1)), (d, .inr (9, [.ref db, .int (nI ((red (iv xs)).length))])), (db, .inl (cy 0, 60, .inl u.2))]) 2 0 0 43 := by
  refine Ki_of (cc := cX9_inverse) (nL := 3) (by decide) rfl (Nat.le_of_ble_eq_true rfl) ?_
  intro p e s m args below meth c A C hnm
  refine j_lo (lo1 := [(0, .ref h), (1, .int (nI i))]) [0, 1] rfl ?_
  refine j_aload_n C rfl 0 rfl dX9_inverse_0 ?_
  refine j_iload_n C rfl 1 rfl dX9_inverse_1 ?_
  refine j_resr (k1 := 0) (n1 := 0) C (j_runV C (c_X9_wordAt (i := i) (a1 := a1) (by omega) (by omega) (by assumption)) gX9_inverse_X9_wordAt rfl hdV_X9_wordAt ⟨Nat.le_of_ble_eq_true rfl, Nat.le_of_ble_eq_true rfl⟩ ⟨Nat.le_of_ble_eq_true rfl, Nat.le_of_ble_eq_true rfl⟩ 0 rfl rfl rfl [0, 1] rfl (by decide) rfl (Nat.le_of_ble_eq_true rfl) dX9_inverse_2) (wr := [(dr, .inr (9, [.ref dl, .int dz])), (dl, .inl (cy 0, 3600, .inl df)), (a1, .inr (9, [.ref b1, .int (nI xs.length)])), (b1, .inl (cy 0, 60, .inl f1)), (d, .inr (9, [.ref db, .int dn])), (db, .inl (cy 0, 60, .inl ef))]) [2, 3, 4, 5, 6, 7] rfl (by decide) (by decide) (Nat.le_refl _) (Nat.le_refl _) (fun u9 a9 ha9 => ?_)
  subst ha9
  refine j_astore_n C (lo1 := [(2, .ref a1), (0, .ref h), (1, .int (nI i))]) rfl (by decide) rfl dX9_inverse_5 ?_
  refine j_aload_n C rfl 1 rfl dX9_inverse_6 ?_
  refine j_getf C (Cn := RX9) (T := TX9) (N := 18) fin_X9_inverse_RX9 6 rfl rfl 10 (by decide) (by decide +kernel) rfl dX9_inverse_7 ?_
  refine j_resv (k1 := 0) (n1 := 0) C (j_runV C (c_X7_clear) gX9_inverse_X7_clear rfl hdV_X7_clear ⟨Nat.le_of_ble_eq_true rfl, Nat.le_of_ble_eq_true rfl⟩ ⟨Nat.le_of_ble_eq_true rfl, Nat.le_of_ble_eq_true rfl⟩ 0 rfl rfl rfl [0] rfl (by decide) rfl (Nat.le_of_ble_eq_true rfl) dX9_inverse_10) (wr := [(dl, .inl (cy 0, 3600, .inl df)), (a1, .inr (9, [.ref b1, .int (nI xs.length)])), (b1, .inl (cy 0, 60, .inl f1)), (d, .inr (9, [.ref db, .int dn])), (db, .inl (cy 0, 60, .inl ef)), (h, .inr (11, [.ref ty, .int tn, .ref aw, .int (nI wn), .ref (ad 4), .ref (ad 5), .ref (ad 6), .int (nI 0), .ref (ad 8), .int (nI 0), .ref dr, .ref se, .ref (ad 12), .ref (ad 13), .ref (ad 14), .ref (ad 15), .ref (ad 16), .ref (ad 17)])), (aw, .inl (cy 4, 24, .inr (.inr (.inr (.inr g)))))]) [1, 2, 3, 4, 5, 6, 7] rfl (by decide) (by decide) (Nat.le_refl _) (Nat.le_refl _) (fun u9 _ => ?_)
  refine j_aload_n C rfl 1 rfl dX9_inverse_13 ?_
  refine j_getf C (Cn := RX9) (T := TX9) (N := 18) fin_X9_inverse_RX9 5 rfl rfl 10 (by decide) (by decide +kernel) rfl dX9_inverse_14 ?_
  refine j_aload_n C rfl 0 rfl dX9_inverse_17 ?_
  refine j_resv (k1 := 0) (n1 := 0) C (j_runV C (c_X7_addInverse (xs := []) (ys := xs) (by decide : 3600 < 2 ^ 20) (by decide : 60 < 2 ^ 20) (by show 0 + xs.length ≤ 3600; omega) L6_nil h16 (Hd_nil df) hf1 hx60) gX9_inverse_X7_addInverse rfl hdV_X7_addInverse ⟨Nat.le_of_ble_eq_true rfl, Nat.le_of_ble_eq_true rfl⟩ ⟨Nat.le_of_ble_eq_true rfl, Nat.le_of_ble_eq_true rfl⟩ 7 rfl rfl rfl [7, 0, 1, 2] rfl (by decide) rfl (Nat.le_of_ble_eq_true rfl) dX9_inverse_18) (wr := [(d, .inr (9, [.ref db, .int dn])), (db, .inl (cy 0, 60, .inl ef)), (h, .inr (11, [.ref ty, .int tn, .ref aw, .int (nI wn), .ref (ad 4), .ref (ad 5), .ref (ad 6), .int (nI 0), .ref (ad 8), .int (nI 0), .ref dr, .ref se, .ref (ad 12), .ref (ad 13), .ref (ad 14), .ref (ad 15), .ref (ad 16), .ref (ad 17)])), (aw, .inl (cy 4, 24, .inr (.inr (.inr (.inr g)))))]) [3, 4, 5, 6] rfl (by decide) (by decide) (Nat.le_refl _) (Nat.le_refl _) (fun q hq => ?_)
  have hrl := red_len (iv xs)
  rw [iv_len] at hrl
  refine j_aload_n C rfl 1 rfl dX9_inverse_21 ?_
  refine j_aload_n C rfl 1 rfl dX9_inverse_22 ?_
  refine j_getf C (Cn := RX9) (T := TX9) (N := 18) fin_X9_inverse_RX9 2 rfl rfl 10 (by decide) (by decide +kernel) rfl dX9_inverse_23 ?_
  refine j_resi (k1 := 0) (n1 := 0) C (j_runV C (c_X9_keep (xs := red (iv xs)) hw4 hgd (by decide) (by omega) (L6_red (L6_iv h16)) hq (by omega)) gX9_inverse_X9_keep rfl hdV_X9_keep ⟨Nat.le_of_ble_eq_true rfl, Nat.le_of_ble_eq_true rfl⟩ ⟨Nat.le_of_ble_eq_true rfl, Nat.le_of_ble_eq_true rfl⟩ 2 rfl rfl rfl [2, 3, 4, 5, 0, 1] rfl (by decide) rfl (Nat.le_of_ble_eq_true rfl) dX9_inverse_26) (wr := [(a1, .inr (9, [.ref b1, .int (nI xs.length)])), (b1, .inl (cy 0, 60, .inl f1))]) [6, 7] rfl (by decide) (by decide) (Nat.le_refl _) (Nat.le_refl _) (fun v e2 hv => ?_)
  obtain ⟨hv, he2⟩ := hv
  subst hv
  exact j_iret C rfl (rfl) ((q, e2)) (⟨rfl, hq, he2⟩) [2, 3, 4, 5, 0, 1, 6, 7] rfl (by decide) (Nat.le_of_ble_eq_true rfl) (Nat.le_of_ble_eq_true rfl) dX9_inverse_29
set_option maxRecDepth 100000 in
theorem fin_X9_power_RX9 : ∀ w ∈ u_ws RX9 TX9 18, w ∈ wsX9_power := by decide +kernel
set_option maxHeartbeats 4000000 in
set_option maxRecDepth 100000 in
/-- power, not below 0 -/
theorem c_X9_power {l : Launch} {G : va_G} {cy : Nat → ClassId} {h ty aw dr se : Nat} {ad : Nat → Nat} {tn : Int32} {wn : Nat} {g : Nat → Option Nat} {a1 b1 i : Nat} {xs : List Nat} {f1 : Nat → Int32} {dl d db : Nat} {dz dn : Int32} {df ef : Nat → Int32} {mm : Nat} (hw : wn ≤ 24) (hi : i < wn) (hg1 : g i = some a1) (h16 : L6 xs) (hf1 : Hd f1 xs) (hx60 : xs.length ≤ 60) (hw4 : wn < 24) (hgd : g wn = some d) (hm6 : mm ≤ 6) (hm60 : mm * xs.length ≤ 60)  : Ki l yX9_power wsX9_power G cy [.ref h, .int (nI i), .int (nI mm)] [(h, .inr (11, [.ref ty, .int tn, .ref aw, .int (nI wn), .ref (ad 4), .ref (ad 5), .ref (ad 6), .int (nI 0), .ref (ad 8), .int (nI 0), .ref dr, .ref se, .ref (ad 12), .ref (ad 13), .ref (ad 14), .ref (ad 15), .ref (ad 16), .ref (ad 17)])), (aw, .inl (cy 4, 24, .inr (.inr (.inr (.inr g))))), (dr, .inr (9, [.ref dl, .int dz])), (dl, .inl (cy 0, 3600, .inl df)), (a1, .inr (9, [.ref b1, .int (nI xs.length)])), (b1, .inl (cy 0, 60, .inl f1)), (d, .inr (9, [.ref db, .int dn])), (db, .inl (cy 0, 60, .inl ef))] (fun (v : Int32) (u : (Nat → Int32) × (Nat → Int32)) => v = nI wn ∧ Hd u.1 (red (rp xs mm)) ∧ Hd u.2 (red (rp xs mm))) (fun u => [(h, .inr (11, [.ref ty, .int tn, .ref aw, .int (nI (wn + 1)), .ref (ad 4), .ref (ad 5), .ref (ad 6), .int (nI 0), .ref (ad 8), .int (nI 0), .ref dr, .ref se, .ref (ad 12), .ref (ad 13), .ref (ad 14), .ref (ad 15), .ref (ad 16), .ref (ad 17)])), (aw, .inl (cy 4, 24, .inr (.inr (.inr (.inr g))))), (dr, .inr (9, [.ref dl, .int (nI ((red (rp xs mm)).length))])), (dl, .inl (cy 0, 3600, .inl u.1)), (a1, .inr (9, [.ref b1, .int (nI xs.length)])), (b1, .inl (cy 0, 60, .inl f1)), (d, .inr (9, [.ref db, .int (nI ((red (rp xs mm)).length))])), (db, .inl (cy 0, 60, .inl u.2))]) 2 0 0 44 := by
  refine Ki_of (cc := cX9_power) (nL := 5) (by decide) rfl (Nat.le_of_ble_eq_true rfl) ?_
  intro p e s m args below meth c A C hnm
  refine j_lo (lo1 := [(0, .ref h), (1, .int (nI i)), (2, .int (nI mm))]) [0, 1, 2] rfl ?_
  refine j_aload_n C rfl 0 rfl dX9_power_0 ?_
  refine j_iload_n C rfl 1 rfl dX9_power_1 ?_
  refine j_resr (k1 := 0) (n1 := 0) C (j_runV C (c_X9_wordAt (i := i) (a1 := a1) (by omega) (by omega) (by assumption)) gX9_power_X9_wordAt rfl hdV_X9_wordAt ⟨Nat.le_of_ble_eq_true rfl, Nat.le_of_ble_eq_true rfl⟩ ⟨Nat.le_of_ble_eq_true rfl, Nat.le_of_ble_eq_true rfl⟩ 0 rfl rfl rfl [0, 1] rfl (by decide) rfl (Nat.le_of_ble_eq_true rfl) dX9_power_2) (wr := [(dr, .inr (9, [.ref dl, .int dz])), (dl, .inl (cy 0, 3600, .inl df)), (a1, .inr (9, [.ref b1, .int (nI xs.length)])), (b1, .inl (cy 0, 60, .inl f1)), (d, .inr (9, [.ref db, .int dn])), (db, .inl (cy 0, 60, .inl ef))]) [2, 3, 4, 5, 6, 7] rfl (by decide) (by decide) (Nat.le_refl _) (Nat.le_refl _) (fun u9 a9 ha9 => ?_)
  subst ha9
  refine j_astore_n C (lo1 := [(3, .ref a1), (0, .ref h), (1, .int (nI i)), (2, .int (nI mm))]) rfl (by decide) rfl dX9_power_5 ?_
  refine j_iload_n C rfl 3 rfl dX9_power_6 ?_
  refine j_bipush C (v := (-6)) (by decide +kernel) dX9_power_7 ?_
  refine j_icmp_lt C (P := False) (fx_n6 hm6) (tgt := 18) (by decide) dX9_power_9 (fun ht => absurd ht (id)) (fun hq => ?_)
  refine j_iload_n C rfl 3 rfl dX9_power_12 ?_
  refine j_bipush C (v := (nI 6)) (by decide +kernel) dX9_power_13 ?_
  refine j_icmp_le C (P := mm ≤ 6) (nI_leI (by omega) (by omega)) (tgt := 28) (by decide) dX9_power_15 (fun ht => ?_) (fun hq => absurd hq (by omega))
  refine j_aload_n C rfl 1 rfl dX9_power_28 ?_
  refine j_getf C (Cn := RX9) (T := TX9) (N := 18) fin_X9_power_RX9 6 rfl rfl 10 (by decide) (by decide +kernel) rfl dX9_power_29 ?_
  refine j_resv (k1 := 0) (n1 := 0) C (j_runV C (c_X7_clear) gX9_power_X7_clear rfl hdV_X7_clear ⟨Nat.le_of_ble_eq_true rfl, Nat.le_of_ble_eq_true rfl⟩ ⟨Nat.le_of_ble_eq_true rfl, Nat.le_of_ble_eq_true rfl⟩ 0 rfl rfl rfl [0] rfl (by decide) rfl (Nat.le_of_ble_eq_true rfl) dX9_power_32) (wr := [(dl, .inl (cy 0, 3600, .inl df)), (a1, .inr (9, [.ref b1, .int (nI xs.length)])), (b1, .inl (cy 0, 60, .inl f1)), (d, .inr (9, [.ref db, .int dn])), (db, .inl (cy 0, 60, .inl ef)), (h, .inr (11, [.ref ty, .int tn, .ref aw, .int (nI wn), .ref (ad 4), .ref (ad 5), .ref (ad 6), .int (nI 0), .ref (ad 8), .int (nI 0), .ref dr, .ref se, .ref (ad 12), .ref (ad 13), .ref (ad 14), .ref (ad 15), .ref (ad 16), .ref (ad 17)])), (aw, .inl (cy 4, 24, .inr (.inr (.inr (.inr g)))))]) [1, 2, 3, 4, 5, 6, 7] rfl (by decide) (by decide) (Nat.le_refl _) (Nat.le_refl _) (fun u9 _ => ?_)
  refine j_iconst C (v := (nI 0)) (by decide +kernel) dX9_power_35 ?_
  refine j_istore C (lo1 := [(4, .int (nI 0)), (3, .ref a1), (0, .ref h), (1, .int (nI i)), (2, .int (nI mm))]) (by decide) rfl dX9_power_36 ?_
  refine j_ws (ws1 := [(h, .inr (11, [.ref ty, .int tn, .ref aw, .int (nI wn), .ref (ad 4), .ref (ad 5), .ref (ad 6), .int (nI 0), .ref (ad 8), .int (nI 0), .ref dr, .ref se, .ref (ad 12), .ref (ad 13), .ref (ad 14), .ref (ad 15), .ref (ad 16), .ref (ad 17)])), (aw, .inl (cy 4, 24, .inr (.inr (.inr (.inr g))))), (dr, .inr (9, [.ref dl, .int (nI (([] : List Nat).length))])), (dl, .inl (cy 0, 3600, .inl df)), (a1, .inr (9, [.ref b1, .int (nI xs.length)])), (b1, .inl (cy 0, 60, .inl f1)), (d, .inr (9, [.ref db, .int dn])), (db, .inl (cy 0, 60, .inl ef))]) [5, 6, 7, 0, 1, 2, 3, 4] rfl (by decide) ?_
  refine j_lo (lo1 := [(4, .int (nI 0)), (2, .int (nI mm)), (3, .ref a1), (0, .ref h)]) [0, 4, 1, 2] rfl ?_
  have lp : ∀ (d9 : Nat) (k : Nat) (q : Nat → Int32), mm - k < d9 → (k ≤ mm) → (Hd q (red (rp xs k))) → J p l e (fz_rm 2 0 0 44) s m args below meth c (MQ below (va_Qi (fun (v : Int32) (u : (Nat → Int32) × (Nat → Int32)) => v = nI wn ∧ Hd u.1 (red (rp xs mm)) ∧ Hd u.2 (red (rp xs mm))) (fz_B G (fun u => [(h, .inr (11, [.ref ty, .int tn, .ref aw, .int (nI (wn + 1)), .ref (ad 4), .ref (ad 5), .ref (ad 6), .int (nI 0), .ref (ad 8), .int (nI 0), .ref dr, .ref se, .ref (ad 12), .ref (ad 13), .ref (ad 14), .ref (ad 15), .ref (ad 16), .ref (ad 17)])), (aw, .inl (cy 4, 24, .inr (.inr (.inr (.inr g))))), (dr, .inr (9, [.ref dl, .int (nI ((red (rp xs mm)).length))])), (dl, .inl (cy 0, 3600, .inl u.1)), (a1, .inr (9, [.ref b1, .int (nI xs.length)])), (b1, .inl (cy 0, 60, .inl f1)), (d, .inr (9, [.ref db, .int (nI ((red (rp xs mm)).length))])), (db, .inl (cy 0, 60, .inl u.2))]) A) A) args s 0 0 A) G A 5 [(h, .inr (11, [.ref ty, .int tn, .ref aw, .int (nI wn), .ref (ad 4), .ref (ad 5), .ref (ad 6), .int (nI 0), .ref (ad 8), .int (nI 0), .ref dr, .ref se, .ref (ad 12), .ref (ad 13), .ref (ad 14), .ref (ad 15), .ref (ad 16), .ref (ad 17)])), (aw, .inl (cy 4, 24, .inr (.inr (.inr (.inr g))))), (dr, .inr (9, [.ref dl, .int (nI ((red (rp xs k)).length))])), (dl, .inl (cy 0, 3600, .inl q)), (a1, .inr (9, [.ref b1, .int (nI xs.length)])), (b1, .inl (cy 0, 60, .inl f1)), (d, .inr (9, [.ref db, .int dn])), (db, .inl (cy 0, 60, .inl ef))] 0 0 38 [(4, .int (nI k)), (2, .int (nI mm)), (3, .ref a1), (0, .ref h)] [] := by
    intro d9
    induction d9 with
    | zero => intro k q hd9; exact absurd hd9 (Nat.not_lt_zero _)
    | succ d9 ih =>
      intro k q hd9 hk hq
      refine j_iload C 0 rfl dX9_power_38 ?_
      refine j_iload_n C rfl 1 rfl dX9_power_40 ?_
      refine j_icmp_ge C (P := mm ≤ k) (nI_leI (by omega) (by omega)) (tgt := 58) (by decide) dX9_power_41 (fun ha => ?_) (fun hb => ?_)
      · have hk9 : k = mm := by omega
        subst hk9
        refine j_iconst C (v := (nI 0)) (by decide +kernel) dX9_power_58 ?_
        refine j_istore C (lo1 := [(4, .int (nI 0)), (2, .int (nI k)), (3, .ref a1), (0, .ref h)]) (by decide) rfl dX9_power_59 ?_
        refine j_iload C 0 rfl dX9_power_61 ?_
        refine j_iload_n C rfl 1 rfl dX9_power_63 ?_
        refine j_ineg C (v := (-nI k)) (rfl) dX9_power_64 ?_
        refine j_icmp_ge C (P := True) (fx_neg (by omega) (by omega)) (tgt := 82) (by decide) dX9_power_65 (fun ht => ?_) (fun hq => absurd hq (fun z => z trivial))
        refine j_aload_n C rfl 3 rfl dX9_power_82 ?_
        refine j_aload_n C rfl 3 rfl dX9_power_83 ?_
        refine j_getf C (Cn := RX9) (T := TX9) (N := 18) fin_X9_power_RX9 0 rfl rfl 10 (by decide) (by decide +kernel) rfl dX9_power_84 ?_
        have hrl := red_len (rp xs k)
        rw [rp_len] at hrl
        refine j_resi (k1 := 0) (n1 := 0) C (j_runV C (c_X9_keep (xs := red (rp xs k)) hw4 hgd (by decide) (by omega) (L6_red (L6_rp h16 k)) hq (by omega)) gX9_power_X9_keep rfl hdV_X9_keep ⟨Nat.le_of_ble_eq_true rfl, Nat.le_of_ble_eq_true rfl⟩ ⟨Nat.le_of_ble_eq_true rfl, Nat.le_of_ble_eq_true rfl⟩ 0 rfl rfl rfl [0, 1, 2, 3, 6, 7] rfl (by decide) rfl (Nat.le_of_ble_eq_true rfl) dX9_power_87) (wr := [(a1, .inr (9, [.ref b1, .int (nI xs.length)])), (b1, .inl (cy 0, 60, .inl f1))]) [4, 5] rfl (by decide) (by decide) (Nat.le_refl _) (Nat.le_refl _) (fun v e2 hv => ?_)
        obtain ⟨hv, he2⟩ := hv
        subst hv
        exact j_iret C rfl (rfl) ((q, e2)) (⟨rfl, hq, he2⟩) [2, 3, 4, 5, 0, 1, 6, 7] rfl (by decide) (Nat.le_of_ble_eq_true rfl) (Nat.le_of_ble_eq_true rfl) dX9_power_90
      · have hrl := red_len (rp xs k)
        rw [rp_len] at hrl
        have hmul : k * xs.length ≤ 5 * 60 := Nat.mul_le_mul (by omega) hx60
        refine j_aload_n C rfl 3 rfl dX9_power_44 ?_
        refine j_getf C (Cn := RX9) (T := TX9) (N := 18) fin_X9_power_RX9 0 rfl rfl 10 (by decide) (by decide +kernel) rfl dX9_power_45 ?_
        refine j_aload_n C rfl 2 rfl dX9_power_48 ?_
        refine j_resv (k1 := 0) (n1 := 0) C (j_runV C (c_X7_addRow (xs := red (rp xs k)) (ys := xs) (by decide : 3600 < 2 ^ 20) (by decide : 60 < 2 ^ 20) (by omega) (L6_red (L6_rp h16 k)) h16 hq hf1 hx60) gX9_power_X7_addRow rfl hdV_X7_addRow ⟨Nat.le_of_ble_eq_true rfl, Nat.le_of_ble_eq_true rfl⟩ ⟨Nat.le_of_ble_eq_true rfl, Nat.le_of_ble_eq_true rfl⟩ 2 rfl rfl rfl [2, 3, 4, 5] rfl (by decide) rfl (Nat.le_of_ble_eq_true rfl) dX9_power_49) (wr := [(h, .inr (11, [.ref ty, .int tn, .ref aw, .int (nI wn), .ref (ad 4), .ref (ad 5), .ref (ad 6), .int (nI 0), .ref (ad 8), .int (nI 0), .ref dr, .ref se, .ref (ad 12), .ref (ad 13), .ref (ad 14), .ref (ad 15), .ref (ad 16), .ref (ad 17)])), (aw, .inl (cy 4, 24, .inr (.inr (.inr (.inr g))))), (d, .inr (9, [.ref db, .int dn])), (db, .inl (cy 0, 60, .inl ef))]) [0, 1, 6, 7] rfl (by decide) (by decide) (Nat.le_refl _) (Nat.le_refl _) (fun q2 hq2 => ?_)
        refine j_ws (ws1 := [(h, .inr (11, [.ref ty, .int tn, .ref aw, .int (nI wn), .ref (ad 4), .ref (ad 5), .ref (ad 6), .int (nI 0), .ref (ad 8), .int (nI 0), .ref dr, .ref se, .ref (ad 12), .ref (ad 13), .ref (ad 14), .ref (ad 15), .ref (ad 16), .ref (ad 17)])), (aw, .inl (cy 4, 24, .inr (.inr (.inr (.inr g))))), (dr, .inr (9, [.ref dl, .int (nI ((act (red (rp xs k)) xs).length))])), (dl, .inl (cy 0, 3600, .inl q2)), (a1, .inr (9, [.ref b1, .int (nI xs.length)])), (b1, .inl (cy 0, 60, .inl f1)), (d, .inr (9, [.ref db, .int dn])), (db, .inl (cy 0, 60, .inl ef))]) [0, 1, 4, 5, 6, 7, 2, 3] rfl (by decide) ?_
        rw [show act (red (rp xs k)) xs = red (rp xs (k + 1)) by rw [rp, red, red, act_app]] at hq2 ⊢
        refine j_iinc C (v := (nI (k + 1))) (lo1 := [(4, .int (nI (k + 1))), (2, .int (nI mm)), (3, .ref a1), (0, .ref h)]) 0 rfl (fx_inc k 1) (by decide) rfl dX9_power_52 ?_
        refine j_goto C (tgt := 38) (by decide) dX9_power_55 ?_
        refine j_lo (lo1 := [(4, .int (nI (k + 1))), (2, .int (nI mm)), (3, .ref a1), (0, .ref h)]) [0, 1, 2, 3] rfl ?_
        exact ih (k + 1) q2 (by omega) (by omega) hq2
  exact lp (mm + 1) 0 df (by omega) (by omega) (Hd_nil df)
set_option maxHeartbeats 4000000 in
set_option maxRecDepth 100000 in
/-- power, not above 0 -/
theorem c_X9_powerN {l : Launch} {G : va_G} {cy : Nat → ClassId} {h ty aw dr se : Nat} {ad : Nat → Nat} {tn : Int32} {wn : Nat} {g : Nat → Option Nat} {a1 b1 i : Nat} {xs : List Nat} {f1 : Nat → Int32} {dl d db : Nat} {dz dn : Int32} {df ef : Nat → Int32} {mm : Nat} (hw : wn ≤ 24) (hi : i < wn) (hg1 : g i = some a1) (h16 : L6 xs) (hf1 : Hd f1 xs) (hx60 : xs.length ≤ 60) (hw4 : wn < 24) (hgd : g wn = some d) (hm6 : mm ≤ 6) (hm60 : mm * xs.length ≤ 60)  : Ki l yX9_power wsX9_power G cy [.ref h, .int (nI i), .int (-nI mm)] [(h, .inr (11, [.ref ty, .int tn, .ref aw, .int (nI wn), .ref (ad 4), .ref (ad 5), .ref (ad 6), .int (nI 0), .ref (ad 8), .int (nI 0), .ref dr, .ref se, .ref (ad 12), .ref (ad 13), .ref (ad 14), .ref (ad 15), .ref (ad 16), .ref (ad 17)])), (aw, .inl (cy 4, 24, .inr (.inr (.inr (.inr g))))), (dr, .inr (9, [.ref dl, .int dz])), (dl, .inl (cy 0, 3600, .inl df)), (a1, .inr (9, [.ref b1, .int (nI xs.length)])), (b1, .inl (cy 0, 60, .inl f1)), (d, .inr (9, [.ref db, .int dn])), (db, .inl (cy 0, 60, .inl ef))] (fun (v : Int32) (u : (Nat → Int32) × (Nat → Int32)) => v = nI wn ∧ Hd u.1 (red (rp (iv xs) mm)) ∧ Hd u.2 (red (rp (iv xs) mm))) (fun u => [(h, .inr (11, [.ref ty, .int tn, .ref aw, .int (nI (wn + 1)), .ref (ad 4), .ref (ad 5), .ref (ad 6), .int (nI 0), .ref (ad 8), .int (nI 0), .ref dr, .ref se, .ref (ad 12), .ref (ad 13), .ref (ad 14), .ref (ad 15), .ref (ad 16), .ref (ad 17)])), (aw, .inl (cy 4, 24, .inr (.inr (.inr (.inr g))))), (dr, .inr (9, [.ref dl, .int (nI ((red (rp (iv xs) mm)).length))])), (dl, .inl (cy 0, 3600, .inl u.1)), (a1, .inr (9, [.ref b1, .int (nI xs.length)])), (b1, .inl (cy 0, 60, .inl f1)), (d, .inr (9, [.ref db, .int (nI ((red (rp (iv xs) mm)).length))])), (db, .inl (cy 0, 60, .inl u.2))]) 2 0 0 43 := by
  refine Ki_of (cc := cX9_power) (nL := 5) (by decide) rfl (Nat.le_of_ble_eq_true rfl) ?_
  intro p e s m args below meth c A C hnm
  refine j_lo (lo1 := [(0, .ref h), (1, .int (nI i)), (2, .int (-nI mm))]) [0, 1, 2] rfl ?_
  refine j_aload_n C rfl 0 rfl dX9_power_0 ?_
  refine j_iload_n C rfl 1 rfl dX9_power_1 ?_
  refine j_resr (k1 := 0) (n1 := 0) C (j_runV C (c_X9_wordAt (i := i) (a1 := a1) (by omega) (by omega) (by assumption)) gX9_power_X9_wordAt rfl hdV_X9_wordAt ⟨Nat.le_of_ble_eq_true rfl, Nat.le_of_ble_eq_true rfl⟩ ⟨Nat.le_of_ble_eq_true rfl, Nat.le_of_ble_eq_true rfl⟩ 0 rfl rfl rfl [0, 1] rfl (by decide) rfl (Nat.le_of_ble_eq_true rfl) dX9_power_2) (wr := [(dr, .inr (9, [.ref dl, .int dz])), (dl, .inl (cy 0, 3600, .inl df)), (a1, .inr (9, [.ref b1, .int (nI xs.length)])), (b1, .inl (cy 0, 60, .inl f1)), (d, .inr (9, [.ref db, .int dn])), (db, .inl (cy 0, 60, .inl ef))]) [2, 3, 4, 5, 6, 7] rfl (by decide) (by decide) (Nat.le_refl _) (Nat.le_refl _) (fun u9 a9 ha9 => ?_)
  subst ha9
  refine j_astore_n C (lo1 := [(3, .ref a1), (0, .ref h), (1, .int (nI i)), (2, .int (-nI mm))]) rfl (by decide) rfl dX9_power_5 ?_
  refine j_iload_n C rfl 3 rfl dX9_power_6 ?_
  refine j_bipush C (v := (-6)) (by decide +kernel) dX9_power_7 ?_
  refine j_icmp_lt C (P := False) (fx_m6 hm6) (tgt := 18) (by decide) dX9_power_9 (fun ht => absurd ht (id)) (fun hq => ?_)
  refine j_iload_n C rfl 3 rfl dX9_power_12 ?_
  refine j_bipush C (v := (nI 6)) (by decide +kernel) dX9_power_13 ?_
  refine j_icmp_le C (P := True) (fx_m6b hm6) (tgt := 28) (by decide) dX9_power_15 (fun ht => ?_) (fun hq => absurd hq (fun z => z trivial))
  refine j_aload_n C rfl 1 rfl dX9_power_28 ?_
  refine j_getf C (Cn := RX9) (T := TX9) (N := 18) fin_X9_power_RX9 6 rfl rfl 10 (by decide) (by decide +kernel) rfl dX9_power_29 ?_
  refine j_resv (k1 := 0) (n1 := 0) C (j_runV C (c_X7_clear) gX9_power_X7_clear rfl hdV_X7_clear ⟨Nat.le_of_ble_eq_true rfl, Nat.le_of_ble_eq_true rfl⟩ ⟨Nat.le_of_ble_eq_true rfl, Nat.le_of_ble_eq_true rfl⟩ 0 rfl rfl rfl [0] rfl (by decide) rfl (Nat.le_of_ble_eq_true rfl) dX9_power_32) (wr := [(dl, .inl (cy 0, 3600, .inl df)), (a1, .inr (9, [.ref b1, .int (nI xs.length)])), (b1, .inl (cy 0, 60, .inl f1)), (d, .inr (9, [.ref db, .int dn])), (db, .inl (cy 0, 60, .inl ef)), (h, .inr (11, [.ref ty, .int tn, .ref aw, .int (nI wn), .ref (ad 4), .ref (ad 5), .ref (ad 6), .int (nI 0), .ref (ad 8), .int (nI 0), .ref dr, .ref se, .ref (ad 12), .ref (ad 13), .ref (ad 14), .ref (ad 15), .ref (ad 16), .ref (ad 17)])), (aw, .inl (cy 4, 24, .inr (.inr (.inr (.inr g)))))]) [1, 2, 3, 4, 5, 6, 7] rfl (by decide) (by decide) (Nat.le_refl _) (Nat.le_refl _) (fun u9 _ => ?_)
  refine j_iconst C (v := (nI 0)) (by decide +kernel) dX9_power_35 ?_
  refine j_istore C (lo1 := [(4, .int (nI 0)), (3, .ref a1), (0, .ref h), (1, .int (nI i)), (2, .int (-nI mm))]) (by decide) rfl dX9_power_36 ?_
  refine j_iload C 0 rfl dX9_power_38 ?_
  refine j_iload_n C rfl 4 rfl dX9_power_40 ?_
  refine j_icmp_ge C (P := True) (fx_neg (by omega) (by omega)) (tgt := 58) (by decide) dX9_power_41 (fun ht => ?_) (fun hq => absurd hq (fun z => z trivial))
  refine j_iconst C (v := (nI 0)) (by decide +kernel) dX9_power_58 ?_
  refine j_istore C (lo1 := [(4, .int (nI 0)), (3, .ref a1), (0, .ref h), (1, .int (nI i)), (2, .int (-nI mm))]) (by decide) rfl dX9_power_59 ?_
  refine j_ws (ws1 := [(h, .inr (11, [.ref ty, .int tn, .ref aw, .int (nI wn), .ref (ad 4), .ref (ad 5), .ref (ad 6), .int (nI 0), .ref (ad 8), .int (nI 0), .ref dr, .ref se, .ref (ad 12), .ref (ad 13), .ref (ad 14), .ref (ad 15), .ref (ad 16), .ref (ad 17)])), (aw, .inl (cy 4, 24, .inr (.inr (.inr (.inr g))))), (dr, .inr (9, [.ref dl, .int (nI (([] : List Nat).length))])), (dl, .inl (cy 0, 3600, .inl df)), (a1, .inr (9, [.ref b1, .int (nI xs.length)])), (b1, .inl (cy 0, 60, .inl f1)), (d, .inr (9, [.ref db, .int dn])), (db, .inl (cy 0, 60, .inl ef))]) [5, 6, 7, 0, 1, 2, 3, 4] rfl (by decide) ?_
  refine j_lo (lo1 := [(4, .int (nI 0)), (2, .int (-nI mm)), (3, .ref a1), (0, .ref h)]) [0, 4, 1, 2] rfl ?_
  have lp : ∀ (d9 : Nat) (k : Nat) (q : Nat → Int32), mm - k < d9 → (k ≤ mm) → (Hd q (red (rp (iv xs) k))) → J p l e (fz_rm 2 0 0 43) s m args below meth c (MQ below (va_Qi (fun (v : Int32) (u : (Nat → Int32) × (Nat → Int32)) => v = nI wn ∧ Hd u.1 (red (rp (iv xs) mm)) ∧ Hd u.2 (red (rp (iv xs) mm))) (fz_B G (fun u => [(h, .inr (11, [.ref ty, .int tn, .ref aw, .int (nI (wn + 1)), .ref (ad 4), .ref (ad 5), .ref (ad 6), .int (nI 0), .ref (ad 8), .int (nI 0), .ref dr, .ref se, .ref (ad 12), .ref (ad 13), .ref (ad 14), .ref (ad 15), .ref (ad 16), .ref (ad 17)])), (aw, .inl (cy 4, 24, .inr (.inr (.inr (.inr g))))), (dr, .inr (9, [.ref dl, .int (nI ((red (rp (iv xs) mm)).length))])), (dl, .inl (cy 0, 3600, .inl u.1)), (a1, .inr (9, [.ref b1, .int (nI xs.length)])), (b1, .inl (cy 0, 60, .inl f1)), (d, .inr (9, [.ref db, .int (nI ((red (rp (iv xs) mm)).length))])), (db, .inl (cy 0, 60, .inl u.2))]) A) A) args s 0 0 A) G A 5 [(h, .inr (11, [.ref ty, .int tn, .ref aw, .int (nI wn), .ref (ad 4), .ref (ad 5), .ref (ad 6), .int (nI 0), .ref (ad 8), .int (nI 0), .ref dr, .ref se, .ref (ad 12), .ref (ad 13), .ref (ad 14), .ref (ad 15), .ref (ad 16), .ref (ad 17)])), (aw, .inl (cy 4, 24, .inr (.inr (.inr (.inr g))))), (dr, .inr (9, [.ref dl, .int (nI ((red (rp (iv xs) k)).length))])), (dl, .inl (cy 0, 3600, .inl q)), (a1, .inr (9, [.ref b1, .int (nI xs.length)])), (b1, .inl (cy 0, 60, .inl f1)), (d, .inr (9, [.ref db, .int dn])), (db, .inl (cy 0, 60, .inl ef))] 0 0 61 [(4, .int (nI k)), (2, .int (-nI mm)), (3, .ref a1), (0, .ref h)] [] := by
    intro d9
    induction d9 with
    | zero => intro k q hd9; exact absurd hd9 (Nat.not_lt_zero _)
    | succ d9 ih =>
      intro k q hd9 hk hq
      refine j_iload C 0 rfl dX9_power_61 ?_
      refine j_iload_n C rfl 1 rfl dX9_power_63 ?_
      refine j_ineg C (v := (nI mm)) (fx_nn9 _) dX9_power_64 ?_
      refine j_icmp_ge C (P := mm ≤ k) (nI_leI (by omega) (by omega)) (tgt := 82) (by decide) dX9_power_65 (fun ha => ?_) (fun hb => ?_)
      · have hk9 : k = mm := by omega
        subst hk9
        refine j_aload_n C rfl 3 rfl dX9_power_82 ?_
        refine j_aload_n C rfl 3 rfl dX9_power_83 ?_
        refine j_getf C (Cn := RX9) (T := TX9) (N := 18) fin_X9_power_RX9 0 rfl rfl 10 (by decide) (by decide +kernel) rfl dX9_power_84 ?_
        have hrl := red_len (rp (iv xs) k)
        rw [rp_len, iv_len] at hrl
        refine j_resi (k1 := 0) (n1 := 0) C (j_runV C (c_X9_keep (xs := red (rp (iv xs) k)) hw4 hgd (by decide) (by omega) (L6_red (L6_rp (L6_iv h16) k)) hq (by omega)) gX9_power_X9_keep rfl hdV_X9_keep ⟨Nat.le_of_ble_eq_true rfl, Nat.le_of_ble_eq_true rfl⟩ ⟨Nat.le_of_ble_eq_true rfl, Nat.le_of_ble_eq_true rfl⟩ 0 rfl rfl rfl [0, 1, 2, 3, 6, 7] rfl (by decide) rfl (Nat.le_of_ble_eq_true rfl) dX9_power_87) (wr := [(a1, .inr (9, [.ref b1, .int (nI xs.length)])), (b1, .inl (cy 0, 60, .inl f1))]) [4, 5] rfl (by decide) (by decide) (Nat.le_refl _) (Nat.le_refl _) (fun v e2 hv => ?_)
        obtain ⟨hv, he2⟩ := hv
        subst hv
        exact j_iret C rfl (rfl) ((q, e2)) (⟨rfl, hq, he2⟩) [2, 3, 4, 5, 0, 1, 6, 7] rfl (by decide) (Nat.le_of_ble_eq_true rfl) (Nat.le_of_ble_eq_true rfl) dX9_power_90
      · have hrl := red_len (rp (iv xs) k)
        rw [rp_len, iv_len] at hrl
        have hmul : k * xs.length ≤ 5 * 60 := Nat.mul_le_mul (by omega) hx60
        refine j_aload_n C rfl 3 rfl dX9_power_68 ?_
        refine j_getf C (Cn := RX9) (T := TX9) (N := 18) fin_X9_power_RX9 0 rfl rfl 10 (by decide) (by decide +kernel) rfl dX9_power_69 ?_
        refine j_aload_n C rfl 2 rfl dX9_power_72 ?_
        refine j_resv (k1 := 0) (n1 := 0) C (j_runV C (c_X7_addInverse (xs := red (rp (iv xs) k)) (ys := xs) (by decide : 3600 < 2 ^ 20) (by decide : 60 < 2 ^ 20) (by omega) (L6_red (L6_rp (L6_iv h16) k)) h16 hq hf1 hx60) gX9_power_X7_addInverse rfl hdV_X7_addInverse ⟨Nat.le_of_ble_eq_true rfl, Nat.le_of_ble_eq_true rfl⟩ ⟨Nat.le_of_ble_eq_true rfl, Nat.le_of_ble_eq_true rfl⟩ 2 rfl rfl rfl [2, 3, 4, 5] rfl (by decide) rfl (Nat.le_of_ble_eq_true rfl) dX9_power_73) (wr := [(h, .inr (11, [.ref ty, .int tn, .ref aw, .int (nI wn), .ref (ad 4), .ref (ad 5), .ref (ad 6), .int (nI 0), .ref (ad 8), .int (nI 0), .ref dr, .ref se, .ref (ad 12), .ref (ad 13), .ref (ad 14), .ref (ad 15), .ref (ad 16), .ref (ad 17)])), (aw, .inl (cy 4, 24, .inr (.inr (.inr (.inr g))))), (d, .inr (9, [.ref db, .int dn])), (db, .inl (cy 0, 60, .inl ef))]) [0, 1, 6, 7] rfl (by decide) (by decide) (Nat.le_refl _) (Nat.le_refl _) (fun q2 hq2 => ?_)
        refine j_ws (ws1 := [(h, .inr (11, [.ref ty, .int tn, .ref aw, .int (nI wn), .ref (ad 4), .ref (ad 5), .ref (ad 6), .int (nI 0), .ref (ad 8), .int (nI 0), .ref dr, .ref se, .ref (ad 12), .ref (ad 13), .ref (ad 14), .ref (ad 15), .ref (ad 16), .ref (ad 17)])), (aw, .inl (cy 4, 24, .inr (.inr (.inr (.inr g))))), (dr, .inr (9, [.ref dl, .int (nI ((act (red (rp (iv xs) k)) (iv xs)).length))])), (dl, .inl (cy 0, 3600, .inl q2)), (a1, .inr (9, [.ref b1, .int (nI xs.length)])), (b1, .inl (cy 0, 60, .inl f1)), (d, .inr (9, [.ref db, .int dn])), (db, .inl (cy 0, 60, .inl ef))]) [0, 1, 4, 5, 6, 7, 2, 3] rfl (by decide) ?_
        rw [show act (red (rp (iv xs) k)) (iv xs) = red (rp (iv xs) (k + 1)) by rw [rp, red, red, act_app]] at hq2 ⊢
        refine j_iinc C (v := (nI (k + 1))) (lo1 := [(4, .int (nI (k + 1))), (2, .int (-nI mm)), (3, .ref a1), (0, .ref h)]) 0 rfl (fx_inc k 1) (by decide) rfl dX9_power_76 ?_
        refine j_goto C (tgt := 61) (by decide) dX9_power_79 ?_
        refine j_lo (lo1 := [(4, .int (nI (k + 1))), (2, .int (-nI mm)), (3, .ref a1), (0, .ref h)]) [0, 1, 2, 3] rfl ?_
        exact ih (k + 1) q2 (by omega) (by omega) hq2
  exact lp (mm + 1) 0 df (by omega) (by omega) (Hd_nil df)
set_option maxHeartbeats 4000000 in
set_option maxRecDepth 100000 in
/-- power: 7 -/
theorem x_X9_power {l : Launch} {G : va_G} {cy : Nat → ClassId} (hl9 : l.stackTraces = false) {h ty aw dr se : Nat} {ad : Nat → Nat} {tn : Int32} {wn : Nat} {g : Nat → Option Nat} {a1 i : Nat} {m7 : Int32} (hw : wn ≤ 24) (hi : i < wn) (hg1 : g i = some a1) (h7 : m7 = nI 7) : Kx l yX9_power wsX9_power G cy [.ref h, .int (nI i), .int m7] [(h, .inr (11, [.ref ty, .int tn, .ref aw, .int (nI wn), .ref (ad 4), .ref (ad 5), .ref (ad 6), .int (nI 0), .ref (ad 8), .int (nI 0), .ref dr, .ref se, .ref (ad 12), .ref (ad 13), .ref (ad 14), .ref (ad 15), .ref (ad 16), .ref (ad 17)])), (aw, .inl (cy 4, 24, .inr (.inr (.inr (.inr g)))))] "java/lang/IllegalArgumentException" 6 1 6 100 := by
  refine Kx_of (cc := cX9_power) (nL := 5) (by decide) rfl (Nat.le_of_ble_eq_true rfl) ?_
  intro p e s m args below meth c A C hnm htb
  refine j_lo (lo1 := [(0, .ref h), (1, .int (nI i)), (2, .int m7)]) [0, 1, 2] rfl ?_
  refine j_aload_n C rfl 0 rfl dX9_power_0 ?_
  refine j_iload_n C rfl 1 rfl dX9_power_1 ?_
  refine j_resr (k1 := 0) (n1 := 0) C (j_runV C (c_X9_wordAt (i := i) (a1 := a1) (by omega) (by omega) (by assumption)) gX9_power_X9_wordAt rfl hdV_X9_wordAt ⟨Nat.le_of_ble_eq_true rfl, Nat.le_of_ble_eq_true rfl⟩ ⟨Nat.le_of_ble_eq_true rfl, Nat.le_of_ble_eq_true rfl⟩ 0 rfl rfl rfl [0, 1] rfl (by decide) rfl (Nat.le_of_ble_eq_true rfl) dX9_power_2) (wr := []) [] rfl (by decide) (by decide) (Nat.le_refl _) (Nat.le_refl _) (fun u9 a9 ha9 => ?_)
  subst ha9
  refine j_astore_n C (lo1 := [(3, .ref a1), (0, .ref h), (1, .int (nI i)), (2, .int m7)]) rfl (by decide) rfl dX9_power_5 ?_
  refine j_iload_n C rfl 3 rfl dX9_power_6 ?_
  refine j_bipush C (v := (-6)) (by decide +kernel) dX9_power_7 ?_
  refine j_icmp_lt C (P := False) (by rw [h7]; decide) (tgt := 18) (by decide) dX9_power_9 (fun ht => absurd ht (id)) (fun hq => ?_)
  refine j_iload_n C rfl 3 rfl dX9_power_12 ?_
  refine j_bipush C (v := (nI 6)) (by decide +kernel) dX9_power_13 ?_
  refine j_icmp_le C (P := False) (by rw [h7]; decide) (tgt := 28) (by decide) dX9_power_15 (fun ht => absurd ht (id)) (fun hq => ?_)
  exact j_throw C hl9 (E := "java/lang/IllegalArgumentException") (text := "the exponent is out of range") ["java/lang/RuntimeException", "java/lang/Exception"] (ik := 147) (is9 := 149) (ic := 151) (mc := 1) (ms := 6) (by decide +kernel) (by decide +kernel) (by decide +kernel) (by decide +kernel) (by decide +kernel) rfl (by decide +kernel) (by decide +kernel) (by decide +kernel) (by decide +kernel) dX9_power_18 dX9_power_21 dX9_power_22 dX9_power_24 dX9_power_27 htb (Nat.le_of_ble_eq_true rfl) (Nat.le_of_ble_eq_true rfl) (Nat.le_of_ble_eq_true rfl) (Nat.le_of_ble_eq_true rfl) [0, 1] rfl (by decide) (Nat.le_of_ble_eq_true rfl) (Nat.le_of_ble_eq_true rfl)
set_option maxHeartbeats 4000000 in
set_option maxRecDepth 100000 in
/-- core -/
theorem c_X9_core {l : Launch} {G : va_G} {cy : Nat → ClassId} {h ty aw dr se : Nat} {ad : Nat → Nat} {tn : Int32} {wn : Nat} {g : Nat → Option Nat} {a1 b1 i : Nat} {xs : List Nat} {f1 : Nat → Int32} {e9 : Nat} (hw : wn ≤ 24) (hi : i < wn) (hg1 : g i = some a1) (h16 : L6 xs) (hf1 : Hd f1 xs) (hx60 : xs.length ≤ 60) (he : IsE xs e9) : Ki l yX9_core wsX9_core G cy [.ref h, .int (nI i)] [(h, .inr (11, [.ref ty, .int tn, .ref aw, .int (nI wn), .ref (ad 4), .ref (ad 5), .ref (ad 6), .int (nI 0), .ref (ad 8), .int (nI 0), .ref dr, .ref se, .ref (ad 12), .ref (ad 13), .ref (ad 14), .ref (ad 15), .ref (ad 16), .ref (ad 17)])), (aw, .inl (cy 4, 24, .inr (.inr (.inr (.inr g))))), (a1, .inr (9, [.ref b1, .int (nI xs.length)])), (b1, .inl (cy 0, 60, .inl f1))] (fun (v : Int32) (_ : Unit) => v = nI (xs.length - 2 * e9)) (fun _ => [(h, .inr (11, [.ref ty, .int tn, .ref aw, .int (nI wn), .ref (ad 4), .ref (ad 5), .ref (ad 6), .int (nI 0), .ref (ad 8), .int (nI 0), .ref dr, .ref se, .ref (ad 12), .ref (ad 13), .ref (ad 14), .ref (ad 15), .ref (ad 16), .ref (ad 17)])), (aw, .inl (cy 4, 24, .inr (.inr (.inr (.inr g))))), (a1, .inr (9, [.ref b1, .int (nI xs.length)])), (b1, .inl (cy 0, 60, .inl f1))]) 2 0 0 41 := by
  refine Ki_of (cc := cX9_core) (nL := 2) (by decide) rfl (Nat.le_of_ble_eq_true rfl) ?_
  intro p e s m args below meth c A C hnm
  refine j_lo (lo1 := [(0, .ref h), (1, .int (nI i))]) [0, 1] rfl ?_
  refine j_aload_n C rfl 0 rfl dX9_core_0 ?_
  refine j_iload_n C rfl 1 rfl dX9_core_1 ?_
  refine j_resr (k1 := 0) (n1 := 0) C (j_runV C (c_X9_wordAt (i := i) (a1 := a1) (by omega) (by omega) (by assumption)) gX9_core_X9_wordAt rfl hdV_X9_wordAt ⟨Nat.le_of_ble_eq_true rfl, Nat.le_of_ble_eq_true rfl⟩ ⟨Nat.le_of_ble_eq_true rfl, Nat.le_of_ble_eq_true rfl⟩ 0 rfl rfl rfl [0, 1] rfl (by decide) rfl (Nat.le_of_ble_eq_true rfl) dX9_core_2) (wr := [(a1, .inr (9, [.ref b1, .int (nI xs.length)])), (b1, .inl (cy 0, 60, .inl f1))]) [2, 3] rfl (by decide) (by decide) (Nat.le_refl _) (Nat.le_refl _) (fun u9 a9 ha9 => ?_)
  subst ha9
  refine j_resi (k1 := 0) (n1 := 0) C (j_runV C (c_X7_coreSize (by decide : 60 < 2 ^ 20) he h16 hf1 hx60) gX9_core_X7_coreSize rfl hdV_X7_coreSize ⟨Nat.le_of_ble_eq_true rfl, Nat.le_of_ble_eq_true rfl⟩ ⟨Nat.le_of_ble_eq_true rfl, Nat.le_of_ble_eq_true rfl⟩ 0 rfl rfl rfl [0, 1] rfl (by decide) rfl (Nat.le_of_ble_eq_true rfl) dX9_core_5) (wr := [(h, .inr (11, [.ref ty, .int tn, .ref aw, .int (nI wn), .ref (ad 4), .ref (ad 5), .ref (ad 6), .int (nI 0), .ref (ad 8), .int (nI 0), .ref dr, .ref se, .ref (ad 12), .ref (ad 13), .ref (ad 14), .ref (ad 15), .ref (ad 16), .ref (ad 17)])), (aw, .inl (cy 4, 24, .inr (.inr (.inr (.inr g)))))]) [2, 3] rfl (by decide) (by decide) (Nat.le_refl _) (Nat.le_refl _) (fun v u hv => ?_)
  subst hv
  exact j_iret C rfl (rfl) (()) (rfl) [0, 1, 2, 3] rfl (by decide) (Nat.le_of_ble_eq_true rfl) (Nat.le_of_ble_eq_true rfl) dX9_core_8
set_option maxRecDepth 100000 in
theorem fin_X9_exponent_RX7 : ∀ w ∈ u_ws RX7 TX7 2, w ∈ wsX9_exponent := by decide +kernel
theorem hdV_X7_corePeriod : yX7_corePeriod.cls = RX7 ∧ yX7_corePeriod.cls ≠ "java/lang/invoke/MethodHandle" ∧ yX7_corePeriod.cls ≠ "java/lang/invoke/VarHandle" ∧ (parseMethodDescriptor yX7_corePeriod.desc).map (fun d => d.parameters.length) = some 0 := by decide +kernel
set_option maxHeartbeats 4000000 in
set_option maxRecDepth 100000 in
/-- exponent -/
theorem c_X9_exponent {l : Launch} {G : va_G} {cy : Nat → ClassId} {h ty aw dr se : Nat} {ad : Nat → Nat} {tn : Int32} {wn : Nat} {g : Nat → Option Nat} {a1 b1 i : Nat} {xs : List Nat} {f1 : Nat → Int32} {e9 core per : Nat} (hw : wn ≤ 24) (hi : i < wn) (hg1 : g i = some a1) (h16 : L6 xs) (hf1 : Hd f1 xs) (hx60 : xs.length ≤ 60) (he : IsE xs e9) (hec : xs.length = 2 * e9 + core) (hp : IsP xs e9 core per) : Ki l yX9_exponent wsX9_exponent G cy [.ref h, .int (nI i)] [(h, .inr (11, [.ref ty, .int tn, .ref aw, .int (nI wn), .ref (ad 4), .ref (ad 5), .ref (ad 6), .int (nI 0), .ref (ad 8), .int (nI 0), .ref dr, .ref se, .ref (ad 12), .ref (ad 13), .ref (ad 14), .ref (ad 15), .ref (ad 16), .ref (ad 17)])), (aw, .inl (cy 4, 24, .inr (.inr (.inr (.inr g))))), (a1, .inr (9, [.ref b1, .int (nI xs.length)])), (b1, .inl (cy 0, 60, .inl f1))] (fun (v : Int32) (_ : Unit) => v = nI (core / per)) (fun _ => [(h, .inr (11, [.ref ty, .int tn, .ref aw, .int (nI wn), .ref (ad 4), .ref (ad 5), .ref (ad 6), .int (nI 0), .ref (ad 8), .int (nI 0), .ref dr, .ref se, .ref (ad 12), .ref (ad 13), .ref (ad 14), .ref (ad 15), .ref (ad 16), .ref (ad 17)])), (aw, .inl (cy 4, 24, .inr (.inr (.inr (.inr g))))), (a1, .inr (9, [.ref b1, .int (nI xs.length)])), (b1, .inl (cy 0, 60, .inl f1))]) 2 0 0 47 := by
  refine Ki_of (cc := cX9_exponent) (nL := 4) (by decide) rfl (Nat.le_of_ble_eq_true rfl) ?_
  intro p e s m args below meth c A C hnm
  refine j_lo (lo1 := [(0, .ref h), (1, .int (nI i))]) [0, 1] rfl ?_
  have hle := IsE_le he
  have hpd := hp
  obtain ⟨hp1, hp2, hp3, hp4, hp5⟩ := hpd
  refine j_aload_n C rfl 0 rfl dX9_exponent_0 ?_
  refine j_iload_n C rfl 1 rfl dX9_exponent_1 ?_
  refine j_resr (k1 := 0) (n1 := 0) C (j_runV C (c_X9_wordAt (i := i) (a1 := a1) (by omega) (by omega) (by assumption)) gX9_exponent_X9_wordAt rfl hdV_X9_wordAt ⟨Nat.le_of_ble_eq_true rfl, Nat.le_of_ble_eq_true rfl⟩ ⟨Nat.le_of_ble_eq_true rfl, Nat.le_of_ble_eq_true rfl⟩ 0 rfl rfl rfl [0, 1] rfl (by decide) rfl (Nat.le_of_ble_eq_true rfl) dX9_exponent_2) (wr := [(a1, .inr (9, [.ref b1, .int (nI xs.length)])), (b1, .inl (cy 0, 60, .inl f1))]) [2, 3] rfl (by decide) (by decide) (Nat.le_refl _) (Nat.le_refl _) (fun u9 a9 ha9 => ?_)
  subst ha9
  refine j_astore_n C (lo1 := [(2, .ref a1), (0, .ref h), (1, .int (nI i))]) rfl (by decide) rfl dX9_exponent_5 ?_
  refine j_aload_n C rfl 0 rfl dX9_exponent_6 ?_
  refine j_getf C (Cn := RX7) (T := TX7) (N := 2) fin_X9_exponent_RX7 0 rfl rfl 1 (by decide) (by decide +kernel) rfl dX9_exponent_7 ?_
  refine j_if_ne C (P := xs.length = 0) (fx_eq0 (by omega)) (tgt := 23) (by decide) dX9_exponent_10 (fun ht => ?_) (fun hq => absurd hq (by omega))
  refine j_aload_n C rfl 0 rfl dX9_exponent_23 ?_
  refine j_resi (k1 := 0) (n1 := 0) C (j_runV C (c_X7_corePeriod (by decide : 60 < 2 ^ 20) he hec (Or.inr hp) h16 hf1 hx60) gX9_exponent_X7_corePeriod rfl hdV_X7_corePeriod ⟨Nat.le_of_ble_eq_true rfl, Nat.le_of_ble_eq_true rfl⟩ ⟨Nat.le_of_ble_eq_true rfl, Nat.le_of_ble_eq_true rfl⟩ 0 rfl rfl rfl [0, 1] rfl (by decide) rfl (Nat.le_of_ble_eq_true rfl) dX9_exponent_24) (wr := [(h, .inr (11, [.ref ty, .int tn, .ref aw, .int (nI wn), .ref (ad 4), .ref (ad 5), .ref (ad 6), .int (nI 0), .ref (ad 8), .int (nI 0), .ref dr, .ref se, .ref (ad 12), .ref (ad 13), .ref (ad 14), .ref (ad 15), .ref (ad 16), .ref (ad 17)])), (aw, .inl (cy 4, 24, .inr (.inr (.inr (.inr g)))))]) [2, 3] rfl (by decide) (by decide) (Nat.le_refl _) (Nat.le_refl _) (fun v u hv => ?_)
  subst hv
  refine j_istore_n C (lo1 := [(3, .int (nI per)), (2, .ref a1), (0, .ref h), (1, .int (nI i))]) rfl (by decide) rfl dX9_exponent_27 ?_
  refine j_iload_n C rfl 0 rfl dX9_exponent_28 ?_
  refine j_if_le C (P := per = 0) (fx_le0 (by omega)) (tgt := 41) (by decide) dX9_exponent_29 (fun ht => absurd ht (by omega)) (fun hq => ?_)
  refine j_aload_n C rfl 1 rfl dX9_exponent_32 ?_
  refine j_resi (k1 := 0) (n1 := 0) C (j_runV C (c_X7_coreSize (by decide : 60 < 2 ^ 20) he h16 hf1 hx60) gX9_exponent_X7_coreSize rfl hdV_X7_coreSize ⟨Nat.le_of_ble_eq_true rfl, Nat.le_of_ble_eq_true rfl⟩ ⟨Nat.le_of_ble_eq_true rfl, Nat.le_of_ble_eq_true rfl⟩ 2 rfl rfl rfl [2, 3] rfl (by decide) rfl (Nat.le_of_ble_eq_true rfl) dX9_exponent_33) (wr := [(h, .inr (11, [.ref ty, .int tn, .ref aw, .int (nI wn), .ref (ad 4), .ref (ad 5), .ref (ad 6), .int (nI 0), .ref (ad 8), .int (nI 0), .ref dr, .ref se, .ref (ad 12), .ref (ad 13), .ref (ad 14), .ref (ad 15), .ref (ad 16), .ref (ad 17)])), (aw, .inl (cy 4, 24, .inr (.inr (.inr (.inr g)))))]) [0, 1] rfl (by decide) (by decide) (Nat.le_refl _) (Nat.le_refl _) (fun v u hv => ?_)
  subst hv
  refine j_seq (st1 := [.int (nI core)]) (by rw [show xs.length - 2 * e9 = core by omega]) ?_
  refine j_iload_n C rfl 0 rfl dX9_exponent_36 ?_
  refine j_idiv C (v := (nI (core / per))) (fx_n0 (by omega) (by omega)) (pk_div (by omega) (by omega) (by omega)) dX9_exponent_37 ?_
  refine j_goto C (tgt := 42) (by decide) dX9_exponent_38 ?_
  exact j_iret C rfl (rfl) (()) (rfl) [0, 1, 2, 3] rfl (by decide) (Nat.le_of_ble_eq_true rfl) (Nat.le_of_ble_eq_true rfl) dX9_exponent_42
theorem hdV_X7_sumOf : yX7_sumOf.cls = RX7 ∧ yX7_sumOf.cls ≠ "java/lang/invoke/MethodHandle" ∧ yX7_sumOf.cls ≠ "java/lang/invoke/VarHandle" ∧ (parseMethodDescriptor yX7_sumOf.desc).map (fun d => d.parameters.length) = some 1 := by decide +kernel
set_option maxHeartbeats 4000000 in
set_option maxRecDepth 100000 in
/-- sum -/
theorem c_X9_sum {l : Launch} {G : va_G} {cy : Nat → ClassId} {h ty aw dr se : Nat} {ad : Nat → Nat} {tn : Int32} {wn : Nat} {g : Nat → Option Nat} {a1 b1 i : Nat} {xs : List Nat} {f1 : Nat → Int32} {k : Nat} {c9 : Int32} (hw : wn ≤ 24) (hi : i < wn) (hg1 : g i = some a1) (h16 : L6 xs) (hf1 : Hd f1 xs) (hx60 : xs.length ≤ 60) (hk : k < 6) (hc9 : c9 = sg k) : Ki l yX9_sum wsX9_sum G cy [.ref h, .int (nI i), .int c9] [(h, .inr (11, [.ref ty, .int tn, .ref aw, .int (nI wn), .ref (ad 4), .ref (ad 5), .ref (ad 6), .int (nI 0), .ref (ad 8), .int (nI 0), .ref dr, .ref se, .ref (ad 12), .ref (ad 13), .ref (ad 14), .ref (ad 15), .ref (ad 16), .ref (ad 17)])), (aw, .inl (cy 4, 24, .inr (.inr (.inr (.inr g))))), (a1, .inr (9, [.ref b1, .int (nI xs.length)])), (b1, .inl (cy 0, 60, .inl f1))] (fun (v : Int32) (_ : Unit) => v = smn xs k xs.length) (fun _ => [(h, .inr (11, [.ref ty, .int tn, .ref aw, .int (nI wn), .ref (ad 4), .ref (ad 5), .ref (ad 6), .int (nI 0), .ref (ad 8), .int (nI 0), .ref dr, .ref se, .ref (ad 12), .ref (ad 13), .ref (ad 14), .ref (ad 15), .ref (ad 16), .ref (ad 17)])), (aw, .inl (cy 4, 24, .inr (.inr (.inr (.inr g))))), (a1, .inr (9, [.ref b1, .int (nI xs.length)])), (b1, .inl (cy 0, 60, .inl f1))]) 1 0 0 23 := by
  refine Ki_of (cc := cX9_sum) (nL := 4) (by decide) rfl (Nat.le_of_ble_eq_true rfl) ?_
  intro p e s m args below meth c A C hnm
  refine j_lo (lo1 := [(0, .ref h), (1, .int (nI i)), (2, .int c9)]) [0, 1, 2] rfl ?_
  refine j_aload_n C rfl 0 rfl dX9_sum_0 ?_
  refine j_iload_n C rfl 1 rfl dX9_sum_1 ?_
  refine j_resr (k1 := 0) (n1 := 0) C (j_runV C (c_X9_wordAt (i := i) (a1 := a1) (by omega) (by omega) (by assumption)) gX9_sum_X9_wordAt rfl hdV_X9_wordAt ⟨Nat.le_of_ble_eq_true rfl, Nat.le_of_ble_eq_true rfl⟩ ⟨Nat.le_of_ble_eq_true rfl, Nat.le_of_ble_eq_true rfl⟩ 0 rfl rfl rfl [0, 1] rfl (by decide) rfl (Nat.le_of_ble_eq_true rfl) dX9_sum_2) (wr := [(a1, .inr (9, [.ref b1, .int (nI xs.length)])), (b1, .inl (cy 0, 60, .inl f1))]) [2, 3] rfl (by decide) (by decide) (Nat.le_refl _) (Nat.le_refl _) (fun u9 a9 ha9 => ?_)
  subst ha9
  refine j_astore_n C (lo1 := [(3, .ref a1), (0, .ref h), (1, .int (nI i)), (2, .int c9)]) rfl (by decide) rfl dX9_sum_5 ?_
  refine j_aload_n C rfl 0 rfl dX9_sum_6 ?_
  refine j_aload_n C rfl 1 rfl dX9_sum_7 ?_
  refine j_iload_n C rfl 3 rfl dX9_sum_8 ?_
  refine j_resi (k1 := 0) (n1 := 0) C (j_runV C (c_X9_codeOf hk hc9) gX9_sum_X9_codeOf rfl hdV_X9_codeOf ⟨Nat.le_of_ble_eq_true rfl, Nat.le_of_ble_eq_true rfl⟩ ⟨Nat.le_of_ble_eq_true rfl, Nat.le_of_ble_eq_true rfl⟩ 2 rfl rfl rfl [] rfl (by decide) rfl (Nat.le_of_ble_eq_true rfl) dX9_sum_9) (wr := [(a1, .inr (9, [.ref b1, .int (nI xs.length)])), (b1, .inl (cy 0, 60, .inl f1)), (h, .inr (11, [.ref ty, .int tn, .ref aw, .int (nI wn), .ref (ad 4), .ref (ad 5), .ref (ad 6), .int (nI 0), .ref (ad 8), .int (nI 0), .ref dr, .ref se, .ref (ad 12), .ref (ad 13), .ref (ad 14), .ref (ad 15), .ref (ad 16), .ref (ad 17)])), (aw, .inl (cy 4, 24, .inr (.inr (.inr (.inr g)))))]) [0, 1, 2, 3] rfl (by decide) (by decide) (Nat.le_refl _) (Nat.le_refl _) (fun v u hv => ?_)
  subst hv
  refine j_resi (k1 := 0) (n1 := 0) C (j_runV C (c_X7_sumOf (by decide : 60 < 2 ^ 20) hk h16 hf1 hx60) gX9_sum_X7_sumOf rfl hdV_X7_sumOf ⟨Nat.le_of_ble_eq_true rfl, Nat.le_of_ble_eq_true rfl⟩ ⟨Nat.le_of_ble_eq_true rfl, Nat.le_of_ble_eq_true rfl⟩ 0 rfl rfl rfl [0, 1] rfl (by decide) rfl (Nat.le_of_ble_eq_true rfl) dX9_sum_12) (wr := [(h, .inr (11, [.ref ty, .int tn, .ref aw, .int (nI wn), .ref (ad 4), .ref (ad 5), .ref (ad 6), .int (nI 0), .ref (ad 8), .int (nI 0), .ref dr, .ref se, .ref (ad 12), .ref (ad 13), .ref (ad 14), .ref (ad 15), .ref (ad 16), .ref (ad 17)])), (aw, .inl (cy 4, 24, .inr (.inr (.inr (.inr g)))))]) [2, 3] rfl (by decide) (by decide) (Nat.le_refl _) (Nat.le_refl _) (fun v u hv => ?_)
  exact j_iret C rfl (rfl) (()) (hv) [0, 1, 2, 3] rfl (by decide) (Nat.le_of_ble_eq_true rfl) (Nat.le_of_ble_eq_true rfl) dX9_sum_15
set_option maxHeartbeats 4000000 in
set_option maxRecDepth 100000 in
/-- sum: no such letter -/
theorem x_X9_sum {l : Launch} {G : va_G} {cy : Nat → ClassId} (hl9 : l.stackTraces = false) {h ty aw dr se : Nat} {ad : Nat → Nat} {tn : Int32} {wn : Nat} {g : Nat → Option Nat} {a1 i : Nat} {c9 : Int32} (hw : wn ≤ 24) (hi : i < wn) (hg1 : g i = some a1) (hne : ∀ i, i < 6 → ¬ sg i = c9) : Kx l yX9_sum wsX9_sum G cy [.ref h, .int (nI i), .int c9] [(h, .inr (11, [.ref ty, .int tn, .ref aw, .int (nI wn), .ref (ad 4), .ref (ad 5), .ref (ad 6), .int (nI 0), .ref (ad 8), .int (nI 0), .ref dr, .ref se, .ref (ad 12), .ref (ad 13), .ref (ad 14), .ref (ad 15), .ref (ad 16), .ref (ad 17)])), (aw, .inl (cy 4, 24, .inr (.inr (.inr (.inr g)))))] "java/lang/IllegalArgumentException" 7 1 6 122 := by
  refine Kx_of (cc := cX9_sum) (nL := 4) (by decide) rfl (Nat.le_of_ble_eq_true rfl) ?_
  intro p e s m args below meth c A C hnm htb
  refine j_lo (lo1 := [(0, .ref h), (1, .int (nI i)), (2, .int c9)]) [0, 1, 2] rfl ?_
  refine j_aload_n C rfl 0 rfl dX9_sum_0 ?_
  refine j_iload_n C rfl 1 rfl dX9_sum_1 ?_
  refine j_resr (k1 := 0) (n1 := 0) C (j_runV C (c_X9_wordAt (i := i) (a1 := a1) (by omega) (by omega) (by assumption)) gX9_sum_X9_wordAt rfl hdV_X9_wordAt ⟨Nat.le_of_ble_eq_true rfl, Nat.le_of_ble_eq_true rfl⟩ ⟨Nat.le_of_ble_eq_true rfl, Nat.le_of_ble_eq_true rfl⟩ 0 rfl rfl rfl [0, 1] rfl (by decide) rfl (Nat.le_of_ble_eq_true rfl) dX9_sum_2) (wr := []) [] rfl (by decide) (by decide) (Nat.le_refl _) (Nat.le_refl _) (fun u9 a9 ha9 => ?_)
  subst ha9
  refine j_astore_n C (lo1 := [(3, .ref a1), (0, .ref h), (1, .int (nI i)), (2, .int c9)]) rfl (by decide) rfl dX9_sum_5 ?_
  refine j_aload_n C rfl 0 rfl dX9_sum_6 ?_
  refine j_aload_n C rfl 1 rfl dX9_sum_7 ?_
  refine j_iload_n C rfl 3 rfl dX9_sum_8 ?_
  refine j_resx (k1 := 1) (n1 := 6) C (j_runX C (x_X9_codeOf hl9 hne) gX9_sum_X9_codeOf rfl hdV_X9_codeOf ⟨Nat.le_of_ble_eq_true rfl, Nat.le_of_ble_eq_true rfl⟩ ⟨Nat.le_of_ble_eq_true rfl, Nat.le_of_ble_eq_true rfl⟩ 0 rfl rfl rfl [] rfl (by decide) rfl (Nat.le_of_ble_eq_true rfl) dX9_sum_9) (wr := [(h, .inr (11, [.ref ty, .int tn, .ref aw, .int (nI wn), .ref (ad 4), .ref (ad 5), .ref (ad 6), .int (nI 0), .ref (ad 8), .int (nI 0), .ref dr, .ref se, .ref (ad 12), .ref (ad 13), .ref (ad 14), .ref (ad 15), .ref (ad 16), .ref (ad 17)])), (aw, .inl (cy 4, 24, .inr (.inr (.inr (.inr g)))))]) [0, 1] rfl (by decide) (by decide) (Nat.le_refl _) (Nat.le_refl _) ?_
  exact j_out C htb [0, 1] rfl (by decide) (Nat.le_of_ble_eq_true rfl) (Nat.le_of_ble_eq_true rfl)
set_option maxRecDepth 100000 in
theorem fin_X9_commute_RX9 : ∀ w ∈ u_ws RX9 TX9 18, w ∈ wsX9_commute := by decide +kernel
set_option maxHeartbeats 4000000 in
set_option maxRecDepth 100000 in
/-- commute -/
theorem c_X9_commute {l : Launch} {G : va_G} {cy : Nat → ClassId} {h ty aw dr se : Nat} {ad : Nat → Nat} {tn : Int32} {wn : Nat} {g : Nat → Option Nat} {a1 b1 i : Nat} {xs : List Nat} {f1 : Nat → Int32} {a2 b2 j : Nat} {ys : List Nat} {f2 : Nat → Int32} {dl sl : Nat} {dz sz : Int32} {df sf : Nat → Int32} (hw : wn ≤ 24) (hi : i < wn) (hg1 : g i = some a1) (h16 : L6 xs) (hf1 : Hd f1 xs) (hx60 : xs.length ≤ 60) (hj : j < wn) (hg2 : g j = some a2) (h26 : L6 ys) (hf2 : Hd f2 ys) (hy60 : ys.length ≤ 60)  : Ki l yX9_commute wsX9_commute G cy [.ref h, .int (nI i), .int (nI j)] [(h, .inr (11, [.ref ty, .int tn, .ref aw, .int (nI wn), .ref (ad 4), .ref (ad 5), .ref (ad 6), .int (nI 0), .ref (ad 8), .int (nI 0), .ref dr, .ref se, .ref (ad 12), .ref (ad 13), .ref (ad 14), .ref (ad 15), .ref (ad 16), .ref (ad 17)])), (aw, .inl (cy 4, 24, .inr (.inr (.inr (.inr g))))), (dr, .inr (9, [.ref dl, .int dz])), (dl, .inl (cy 0, 3600, .inl df)), (se, .inr (9, [.ref sl, .int sz])), (sl, .inl (cy 0, 3600, .inl sf)), (a1, .inr (9, [.ref b1, .int (nI xs.length)])), (b1, .inl (cy 0, 60, .inl f1)), (a2, .inr (9, [.ref b2, .int (nI ys.length)])), (b2, .inl (cy 0, 60, .inl f2))] (fun (v : Int32) (u : (Nat → Int32) × (Nat → Int32)) => ((v = 1 ∧ red (xs ++ ys) = red (ys ++ xs)) ∨ (v = 0 ∧ red (xs ++ ys) ≠ red (ys ++ xs))) ∧ Hd u.1 (red (xs ++ ys)) ∧ Hd u.2 (red (ys ++ xs))) (fun u => [(h, .inr (11, [.ref ty, .int tn, .ref aw, .int (nI wn), .ref (ad 4), .ref (ad 5), .ref (ad 6), .int (nI 0), .ref (ad 8), .int (nI 0), .ref dr, .ref se, .ref (ad 12), .ref (ad 13), .ref (ad 14), .ref (ad 15), .ref (ad 16), .ref (ad 17)])), (aw, .inl (cy 4, 24, .inr (.inr (.inr (.inr g))))), (dr, .inr (9, [.ref dl, .int (nI ((red (xs ++ ys)).length))])), (dl, .inl (cy 0, 3600, .inl u.1)), (se, .inr (9, [.ref sl, .int (nI ((red (ys ++ xs)).length))])), (sl, .inl (cy 0, 3600, .inl u.2)), (a1, .inr (9, [.ref b1, .int (nI xs.length)])), (b1, .inl (cy 0, 60, .inl f1)), (a2, .inr (9, [.ref b2, .int (nI ys.length)])), (b2, .inl (cy 0, 60, .inl f2))]) 3 0 0 66 := by
  refine Ki_of (cc := cX9_commute) (nL := 5) (by decide) rfl (Nat.le_of_ble_eq_true rfl) ?_
  intro p e s m args below meth c A C hnm
  refine j_lo (lo1 := [(0, .ref h), (1, .int (nI i)), (2, .int (nI j))]) [0, 1, 2] rfl ?_
  refine j_aload_n C rfl 0 rfl dX9_commute_0 ?_
  refine j_iload_n C rfl 1 rfl dX9_commute_1 ?_
  refine j_resr (k1 := 0) (n1 := 0) C (j_runV C (c_X9_wordAt (i := i) (a1 := a1) (by omega) (by omega) (by assumption)) gX9_commute_X9_wordAt rfl hdV_X9_wordAt ⟨Nat.le_of_ble_eq_true rfl, Nat.le_of_ble_eq_true rfl⟩ ⟨Nat.le_of_ble_eq_true rfl, Nat.le_of_ble_eq_true rfl⟩ 0 rfl rfl rfl [0, 1] rfl (by decide) rfl (Nat.le_of_ble_eq_true rfl) dX9_commute_2) (wr := [(dr, .inr (9, [.ref dl, .int dz])), (dl, .inl (cy 0, 3600, .inl df)), (se, .inr (9, [.ref sl, .int sz])), (sl, .inl (cy 0, 3600, .inl sf)), (a1, .inr (9, [.ref b1, .int (nI xs.length)])), (b1, .inl (cy 0, 60, .inl f1)), (a2, .inr (9, [.ref b2, .int (nI ys.length)])), (b2, .inl (cy 0, 60, .inl f2))]) [2, 3, 4, 5, 6, 7, 8, 9] rfl (by decide) (by decide) (Nat.le_refl _) (Nat.le_refl _) (fun u9 a9 ha9 => ?_)
  subst ha9
  refine j_astore_n C (lo1 := [(3, .ref a1), (0, .ref h), (1, .int (nI i)), (2, .int (nI j))]) rfl (by decide) rfl dX9_commute_5 ?_
  refine j_aload_n C rfl 1 rfl dX9_commute_6 ?_
  refine j_iload_n C rfl 3 rfl dX9_commute_7 ?_
  refine j_resr (k1 := 0) (n1 := 0) C (j_runV C (c_X9_wordAt (i := j) (a1 := a2) (by omega) (by omega) (by assumption)) gX9_commute_X9_wordAt rfl hdV_X9_wordAt ⟨Nat.le_of_ble_eq_true rfl, Nat.le_of_ble_eq_true rfl⟩ ⟨Nat.le_of_ble_eq_true rfl, Nat.le_of_ble_eq_true rfl⟩ 8 rfl rfl rfl [8, 9] rfl (by decide) rfl (Nat.le_of_ble_eq_true rfl) dX9_commute_8) (wr := [(dr, .inr (9, [.ref dl, .int dz])), (dl, .inl (cy 0, 3600, .inl df)), (se, .inr (9, [.ref sl, .int sz])), (sl, .inl (cy 0, 3600, .inl sf)), (a1, .inr (9, [.ref b1, .int (nI xs.length)])), (b1, .inl (cy 0, 60, .inl f1)), (a2, .inr (9, [.ref b2, .int (nI ys.length)])), (b2, .inl (cy 0, 60, .inl f2))]) [0, 1, 2, 3, 4, 5, 6, 7] rfl (by decide) (by decide) (Nat.le_refl _) (Nat.le_refl _) (fun u9 a9 ha9 => ?_)
  subst ha9
  refine j_astore C (lo1 := [(4, .ref a2), (3, .ref a1), (0, .ref h), (1, .int (nI i)), (2, .int (nI j))]) (by decide) rfl dX9_commute_11 ?_
  refine j_aload_n C rfl 2 rfl dX9_commute_13 ?_
  refine j_getf C (Cn := RX9) (T := TX9) (N := 18) fin_X9_commute_RX9 8 rfl rfl 10 (by decide) (by decide +kernel) rfl dX9_commute_14 ?_
  refine j_aload_n C rfl 1 rfl dX9_commute_17 ?_
  refine j_aload C 0 rfl dX9_commute_18 ?_
  refine j_resv (k1 := 0) (n1 := 0) C (j_runS C (c_X9_setProduct h16 hf1 hx60 h26 hf2 hy60) gX9_commute_X9_setProduct rfl hdS_X9_setProduct ⟨Nat.le_of_ble_eq_true rfl, Nat.le_of_ble_eq_true rfl⟩ ⟨Nat.le_of_ble_eq_true rfl, Nat.le_of_ble_eq_true rfl⟩ [0, 1, 4, 5, 6, 7] rfl (by decide) rfl (Nat.le_of_ble_eq_true rfl) dX9_commute_20) (wr := [(se, .inr (9, [.ref sl, .int sz])), (sl, .inl (cy 0, 3600, .inl sf)), (h, .inr (11, [.ref ty, .int tn, .ref aw, .int (nI wn), .ref (ad 4), .ref (ad 5), .ref (ad 6), .int (nI 0), .ref (ad 8), .int (nI 0), .ref dr, .ref se, .ref (ad 12), .ref (ad 13), .ref (ad 14), .ref (ad 15), .ref (ad 16), .ref (ad 17)])), (aw, .inl (cy 4, 24, .inr (.inr (.inr (.inr g)))))]) [2, 3, 8, 9] rfl (by decide) (by decide) (Nat.le_refl _) (Nat.le_refl _) (fun q hq => ?_)
  refine j_aload_n C rfl 2 rfl dX9_commute_23 ?_
  refine j_getf C (Cn := RX9) (T := TX9) (N := 18) fin_X9_commute_RX9 2 rfl rfl 11 (by decide) (by decide +kernel) rfl dX9_commute_24 ?_
  refine j_aload C 0 rfl dX9_commute_27 ?_
  refine j_aload_n C rfl 1 rfl dX9_commute_29 ?_
  refine j_resv (k1 := 0) (n1 := 0) C (j_runS C (c_X9_setProduct h26 hf2 hy60 h16 hf1 hx60) gX9_commute_X9_setProduct rfl hdS_X9_setProduct ⟨Nat.le_of_ble_eq_true rfl, Nat.le_of_ble_eq_true rfl⟩ ⟨Nat.le_of_ble_eq_true rfl, Nat.le_of_ble_eq_true rfl⟩ [0, 1, 8, 9, 6, 7] rfl (by decide) rfl (Nat.le_of_ble_eq_true rfl) dX9_commute_30) (wr := [(h, .inr (11, [.ref ty, .int tn, .ref aw, .int (nI wn), .ref (ad 4), .ref (ad 5), .ref (ad 6), .int (nI 0), .ref (ad 8), .int (nI 0), .ref dr, .ref se, .ref (ad 12), .ref (ad 13), .ref (ad 14), .ref (ad 15), .ref (ad 16), .ref (ad 17)])), (aw, .inl (cy 4, 24, .inr (.inr (.inr (.inr g))))), (dr, .inr (9, [.ref dl, .int (nI ((red (xs ++ ys)).length))])), (dl, .inl (cy 0, 3600, .inl q))]) [2, 3, 4, 5] rfl (by decide) (by decide) (Nat.le_refl _) (Nat.le_refl _) (fun q2 hq2 => ?_)
  have hrl := red_len (xs ++ ys)
  rw [List.length_append] at hrl
  have hrl2 := red_len (ys ++ xs)
  rw [List.length_append] at hrl2
  refine j_aload_n C rfl 2 rfl dX9_commute_33 ?_
  refine j_getf C (Cn := RX9) (T := TX9) (N := 18) fin_X9_commute_RX9 0 rfl rfl 10 (by decide) (by decide +kernel) rfl dX9_commute_34 ?_
  refine j_aload_n C rfl 2 rfl dX9_commute_37 ?_
  refine j_getf C (Cn := RX9) (T := TX9) (N := 18) fin_X9_commute_RX9 0 rfl rfl 11 (by decide) (by decide +kernel) rfl dX9_commute_38 ?_
  refine j_resi (k1 := 0) (n1 := 0) C (j_runV C (c_X7_orderTo (by decide : 3600 < 2 ^ 20) (by decide : 3600 < 2 ^ 20) (L6_red (L6_app h16 h26)) (L6_red (L6_app h26 h16)) hq hq2 (by omega) (by omega)) gX9_commute_X7_orderTo rfl hdV_X7_orderTo ⟨Nat.le_of_ble_eq_true rfl, Nat.le_of_ble_eq_true rfl⟩ ⟨Nat.le_of_ble_eq_true rfl, Nat.le_of_ble_eq_true rfl⟩ 2 rfl rfl rfl [2, 3, 4, 5] rfl (by decide) rfl (Nat.le_of_ble_eq_true rfl) dX9_commute_41) (wr := [(h, .inr (11, [.ref ty, .int tn, .ref aw, .int (nI wn), .ref (ad 4), .ref (ad 5), .ref (ad 6), .int (nI 0), .ref (ad 8), .int (nI 0), .ref dr, .ref se, .ref (ad 12), .ref (ad 13), .ref (ad 14), .ref (ad 15), .ref (ad 16), .ref (ad 17)])), (aw, .inl (cy 4, 24, .inr (.inr (.inr (.inr g))))), (a2, .inr (9, [.ref b2, .int (nI ys.length)])), (b2, .inl (cy 0, 60, .inl f2)), (a1, .inr (9, [.ref b1, .int (nI xs.length)])), (b1, .inl (cy 0, 60, .inl f1))]) [0, 1, 6, 7, 8, 9] rfl (by decide) (by decide) (Nat.le_refl _) (Nat.le_refl _) (fun v u hv => ?_)
  subst hv
  refine j_if_ne C .rfl (tgt := 51) (by decide) dX9_commute_44 (fun ht => ?_) (fun hq9 => ?_)
  · refine j_iconst C (v := (nI 0)) (by decide +kernel) dX9_commute_51 ?_
    exact j_iret C rfl (rfl) ((q, q2)) (⟨Or.inr ⟨rfl, fun z => ht (by rw [z]; exact fo_self _)⟩, hq, hq2⟩) [0, 1, 6, 7, 8, 9, 4, 5, 2, 3] rfl (by decide) (Nat.le_of_ble_eq_true rfl) (Nat.le_of_ble_eq_true rfl) dX9_commute_52
  · refine j_iconst C (v := (nI 1)) (by decide +kernel) dX9_commute_47 ?_
    refine j_goto C (tgt := 52) (by decide) dX9_commute_48 ?_
    exact j_iret C rfl (rfl) ((q, q2)) (⟨Or.inl ⟨rfl, fo_eq hq9⟩, hq, hq2⟩) [0, 1, 6, 7, 8, 9, 4, 5, 2, 3] rfl (by decide) (Nat.le_of_ble_eq_true rfl) (Nat.le_of_ble_eq_true rfl) dX9_commute_52
