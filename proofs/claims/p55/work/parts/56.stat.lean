section FZQ
variable {p : Program} {l : Launch} {e : Env} {R : Room} {s : State} {m : MethodId} {args : Array Value} {below : List Frame} {meth : Method} {c : Code} {Q : State → Prop} {G : va_G} {A : Nat → Prop} {nL : Nat}
variable {ws : va_W} {k n pc : Nat} {lo : List (Nat × Value)} {st : List Value}
theorem j_gent {x : Int32} (kk : ∀ y : Int32, J p l e R s m args below meth c Q G A nL ws k n pc lo (.int y :: st)) : J p l e R s m args below meth c Q G A nL ws k n pc lo (.int x :: st) := kk x
end FZQ
theorem fx_dec1 {n : Nat} (h : 0 < n) : nI n + Int32.ofInt (-1) = nI (n - 1) := by
  rw [fx_dec, ← pk_sub h]; rfl
set_option maxHeartbeats 4000000 in
set_option maxRecDepth 100000 in
/-- cell -/
theorem c_L_cell {l : Launch} {G : va_G} {cy : Nat → ClassId} {i : Nat} (hL : cy 10 < 2 ^ 31) (hi : i < 2 ^ 31) : Ki l yL_cell wsL_cell G cy [.ref (cy 9), .int (nI i)] [] (fun (_ : Int32) (_ : Unit) => True) (fun _ => []) 0 0 0 0 := by
  refine Ki_of (cc := cL_cell) (nL := 3) (by decide) rfl (Nat.le_of_ble_eq_true rfl) ?_
  intro p e s m args below meth c A C hnm
  refine j_lo (lo1 := [(0, .ref (cy 9)), (1, .int (nI i))]) [0, 1] rfl ?_
  refine j_ldc C (v := (69069)) (by decide +kernel) dL_cell_0 ?_
  refine j_iload_n C rfl 1 rfl dL_cell_2 ?_
  refine j_aload_n C rfl 0 rfl dL_cell_3 ?_
  refine j_slen C dL_cell_4 ?_
  refine j_icmp_ge C (P := (cy 10) ≤ i) (nI_leI (by omega) (by omega)) (tgt := 14) (by decide) dL_cell_5 (fun ht => ?_) (fun hq => ?_)
  · refine j_iconst C (v := (nI 0)) (by decide +kernel) dL_cell_14 ?_
    refine j_sipush C (v := (nI 1009)) (by decide +kernel) dL_cell_15 ?_
    refine j_iload_n C rfl 1 rfl dL_cell_18 ?_
    refine j_imul C (v := (nI (1009 * i))) (pk_mul 1009 i) dL_cell_19 ?_
    refine j_gent (fun y1 => ?_)
    refine j_iadd C (v := ((nI 0) + y1)) (rfl) dL_cell_20 ?_
    refine j_gent (fun y2 => ?_)
    refine j_imul C (v := ((69069) * y2)) (rfl) dL_cell_21 ?_
    refine j_gent (fun y3 => ?_)
    refine j_sipush C (v := (nI 12345)) (by decide +kernel) dL_cell_22 ?_
    refine j_iadd C (v := (y3 + (nI 12345))) (rfl) dL_cell_25 ?_
    refine j_gent (fun y4 => ?_)
    refine j_istore_n C (lo1 := [(2, .int y4), (0, .ref (cy 9)), (1, .int (nI i))]) rfl (by decide) rfl dL_cell_26 ?_
    refine j_iload_n C rfl 0 rfl dL_cell_27 ?_
    refine j_iload_n C rfl 0 rfl dL_cell_28 ?_
    refine j_bipush C (v := (nI 13)) (by decide +kernel) dL_cell_29 ?_
    refine j_iushr C rfl dL_cell_31 ?_
    refine j_gent (fun y5 => ?_)
    refine j_ixor C (v := (y4 ^^^ y5)) (rfl) dL_cell_32 ?_
    refine j_gent (fun y6 => ?_)
    refine j_ldc C (v := (1103515245)) (by decide +kernel) dL_cell_33 ?_
    refine j_imul C (v := (y6 * (1103515245))) (rfl) dL_cell_35 ?_
    refine j_gent (fun y7 => ?_)
    refine j_istore_n C (lo1 := [(2, .int y7), (0, .ref (cy 9)), (1, .int (nI i))]) rfl (by decide) rfl dL_cell_36 ?_
    refine j_iload_n C rfl 0 rfl dL_cell_37 ?_
    refine j_iload_n C rfl 0 rfl dL_cell_38 ?_
    refine j_bipush C (v := (nI 16)) (by decide +kernel) dL_cell_39 ?_
    refine j_iushr C rfl dL_cell_41 ?_
    refine j_gent (fun y8 => ?_)
    refine j_ixor C (v := (y7 ^^^ y8)) (rfl) dL_cell_42 ?_
    refine j_gent (fun y9 => ?_)
    exact j_iret C rfl (rfl) (()) (trivial) [] rfl (by decide) (Nat.le_of_ble_eq_true rfl) (Nat.le_of_ble_eq_true rfl) dL_cell_43
  · refine j_aload_n C rfl 0 rfl dL_cell_8 ?_
    refine j_iload_n C rfl 1 rfl dL_cell_9 ?_
    have hq9 := Nat.lt_of_not_le hq
    refine j_sld C hq9 hL dL_cell_10 (fun x9 => ?_)
    refine j_goto C (tgt := 15) (by decide) dL_cell_11 ?_
    refine j_sipush C (v := (nI 1009)) (by decide +kernel) dL_cell_15 ?_
    refine j_iload_n C rfl 1 rfl dL_cell_18 ?_
    refine j_imul C (v := (nI (1009 * i))) (pk_mul 1009 i) dL_cell_19 ?_
    refine j_gent (fun y10 => ?_)
    refine j_iadd C (v := (x9 + y10)) (rfl) dL_cell_20 ?_
    refine j_gent (fun y11 => ?_)
    refine j_imul C (v := ((69069) * y11)) (rfl) dL_cell_21 ?_
    refine j_gent (fun y12 => ?_)
    refine j_sipush C (v := (nI 12345)) (by decide +kernel) dL_cell_22 ?_
    refine j_iadd C (v := (y12 + (nI 12345))) (rfl) dL_cell_25 ?_
    refine j_gent (fun y13 => ?_)
    refine j_istore_n C (lo1 := [(2, .int y13), (0, .ref (cy 9)), (1, .int (nI i))]) rfl (by decide) rfl dL_cell_26 ?_
    refine j_iload_n C rfl 0 rfl dL_cell_27 ?_
    refine j_iload_n C rfl 0 rfl dL_cell_28 ?_
    refine j_bipush C (v := (nI 13)) (by decide +kernel) dL_cell_29 ?_
    refine j_iushr C rfl dL_cell_31 ?_
    refine j_gent (fun y14 => ?_)
    refine j_ixor C (v := (y13 ^^^ y14)) (rfl) dL_cell_32 ?_
    refine j_gent (fun y15 => ?_)
    refine j_ldc C (v := (1103515245)) (by decide +kernel) dL_cell_33 ?_
    refine j_imul C (v := (y15 * (1103515245))) (rfl) dL_cell_35 ?_
    refine j_gent (fun y16 => ?_)
    refine j_istore_n C (lo1 := [(2, .int y16), (0, .ref (cy 9)), (1, .int (nI i))]) rfl (by decide) rfl dL_cell_36 ?_
    refine j_iload_n C rfl 0 rfl dL_cell_37 ?_
    refine j_iload_n C rfl 0 rfl dL_cell_38 ?_
    refine j_bipush C (v := (nI 16)) (by decide +kernel) dL_cell_39 ?_
    refine j_iushr C rfl dL_cell_41 ?_
    refine j_gent (fun y17 => ?_)
    refine j_ixor C (v := (y16 ^^^ y17)) (rfl) dL_cell_42 ?_
    refine j_gent (fun y18 => ?_)
    exact j_iret C rfl (rfl) (()) (trivial) [] rfl (by decide) (Nat.le_of_ble_eq_true rfl) (Nat.le_of_ble_eq_true rfl) dL_cell_43
theorem hdS_L_cell : yL_cell.cls ≠ "java/lang/invoke/MethodHandle" ∧ yL_cell.cls ≠ "java/lang/invoke/VarHandle" ∧ (parseMethodDescriptor yL_cell.desc).map (fun d => d.parameters.length) = some 2 := by decide +kernel
set_option maxHeartbeats 4000000 in
set_option maxRecDepth 100000 in
/-- in -/
theorem c_L_in {l : Launch} {G : va_G} {cy : Nat → ClassId} {i n : Nat} (hL : cy 10 < 2 ^ 31) (hi : i < 2 ^ 31) (h0 : 0 < n) (hn : n < 1000) : Ki l yL_in wsL_in G cy [.ref (cy 9), .int (nI i), .int (nI n)] [] (fun (v : Int32) (u : Nat) => v = nI u ∧ u < n) (fun _ => []) 1 0 0 22 := by
  refine Ki_of (cc := cL_in) (nL := 3) (by decide) rfl (Nat.le_of_ble_eq_true rfl) ?_
  intro p e s m args below meth c A C hnm
  refine j_lo (lo1 := [(0, .ref (cy 9)), (1, .int (nI i)), (2, .int (nI n))]) [0, 1, 2] rfl ?_
  refine j_aload_n C rfl 0 rfl dL_in_0 ?_
  refine j_iload_n C rfl 1 rfl dL_in_1 ?_
  refine j_resi (k1 := 0) (n1 := 0) C (j_runS C (c_L_cell hL hi) gL_in_L_cell rfl hdS_L_cell ⟨Nat.le_of_ble_eq_true rfl, Nat.le_of_ble_eq_true rfl⟩ ⟨Nat.le_of_ble_eq_true rfl, Nat.le_of_ble_eq_true rfl⟩ [] rfl (by decide) rfl (Nat.le_of_ble_eq_true rfl) dL_in_2) (wr := []) [] rfl (by decide) (by decide) (Nat.le_refl _) (Nat.le_refl _) (fun v u _ => ?_)
  refine j_ldc C (v := (2147483647)) (by decide +kernel) dL_in_5 ?_
  obtain ⟨j, hj, hje⟩ := pk_andE v (m := 2147483647) 31 (by decide)
  refine j_iand C (v := (nI j)) (hje) dL_in_7 ?_
  refine j_iload_n C rfl 2 rfl dL_in_8 ?_
  refine j_irem C (v := (nI (j % n))) (fx_n0 h0 (by omega)) (pk_rem hj h0 (by omega)) dL_in_9 ?_
  exact j_iret C rfl (rfl) (j % n) (⟨rfl, Nat.mod_lt _ h0⟩) [] rfl (by decide) (Nat.le_of_ble_eq_true rfl) (Nat.le_of_ble_eq_true rfl) dL_in_10
set_option maxHeartbeats 4000000 in
set_option maxRecDepth 100000 in
/-- joined -/
theorem c_L_joined {l : Launch} {G : va_G} {cy : Nat → ClassId} {a1 a2 : Nat} {xs ys : List Nat} {f1 f2 : Nat → Int32} (h1 : L6 xs) (h2 : L6 ys) (hf1 : Hd f1 xs) (hf2 : Hd f2 ys) (hl : xs.length + ys.length ≤ 64) : Kr l yL_joined wsL_joined G cy [.ref a1, .ref a2] [(a1, .inl (cy 1, xs.length, .inl f1)), (a2, .inl (cy 1, ys.length, .inl f2))] (fun (u : Nat → Int32) (_ : Nat) => Hd u (red (xs ++ ys))) (fun u a => [(a1, .inl (cy 1, xs.length, .inl f1)), (a2, .inl (cy 1, ys.length, .inl f2)), (a, .inl (cy 1, (red (xs ++ ys)).length, .inl u))]) 0 2 128 0 := by
  refine Kr_of (cc := cL_joined) (nL := 6) (by decide) rfl (Nat.le_of_ble_eq_true rfl) ?_
  intro p e s m args below meth c A C hnm
  refine j_lo (lo1 := [(0, .ref a1), (1, .ref a2)]) [0, 1] rfl ?_
  have hz6 : L6 (xs ++ ys) := L6_app h1 h2
  refine j_aload_n C rfl 0 rfl dL_joined_0 ?_
  refine j_alen C 0 1 rfl rfl (v := (nI xs.length)) rfl dL_joined_1 ?_
  refine j_aload_n C rfl 1 rfl dL_joined_2 ?_
  refine j_alen C 1 1 rfl rfl (v := (nI ys.length)) rfl dL_joined_3 ?_
  refine j_iadd C (v := (nI (xs.length + ys.length))) (fx_add xs.length ys.length) dL_joined_4 ?_
  refine j_newa C (at9 := .int) 1 (by decide +kernel) rfl rfl (N := xs.length + ys.length) (a0 := (xs.length + ys.length, .inl (fun _ => 0))) (k1 := 1) (n1 := 64) (fun _ => rfl) (nI_pos (by omega)) (nI_clamp (by omega)) (by show (xs.length + ys.length) * 4 ≤ 536870912; omega) (Nat.le_of_ble_eq_true rfl) (by show 0 + (xs.length + ys.length) ≤ 128; omega) (Nat.le_refl _) (by omega) dL_joined_5 (fun a3 => ?_)
  refine j_astore_n C (lo1 := [(2, .ref a3), (0, .ref a1), (1, .ref a2)]) rfl (by decide) rfl dL_joined_7 ?_
  refine j_iconst C (v := (nI 0)) (by decide +kernel) dL_joined_8 ?_
  refine j_istore_n C (lo1 := [(3, .int (nI 0)), (2, .ref a3), (0, .ref a1), (1, .ref a2)]) rfl (by decide) rfl dL_joined_9 ?_
  refine j_iconst C (v := (nI 0)) (by decide +kernel) dL_joined_10 ?_
  refine j_istore C (lo1 := [(4, .int (nI 0)), (3, .int (nI 0)), (2, .ref a3), (0, .ref a1), (1, .ref a2)]) (by decide) rfl dL_joined_11 ?_
  refine j_lo (lo1 := [(4, .int (nI 0)), (3, .int (nI 0)), (2, .ref a3), (0, .ref a1), (1, .ref a2)]) [0, 1, 2, 3, 4] rfl ?_
  have lp : ∀ (d9 : Nat) (k : Nat) (q : Nat → Int32), xs.length + ys.length - k < d9 → (k ≤ xs.length + ys.length) → (Hd q (red (seg (gd (xs ++ ys)) 0 k))) → J p l e (fz_rm 0 2 128 0) s m args below meth c (MQ below (va_Qr (fun _ => True) (fz_Br G (fun (u : Nat → Int32) (_ : Nat) => Hd u (red (xs ++ ys))) (fun u a => [(a1, .inl (cy 1, xs.length, .inl f1)), (a2, .inl (cy 1, ys.length, .inl f2)), (a, .inl (cy 1, (red (xs ++ ys)).length, .inl u))]) A) A) args s 2 128 A) G A 6 [(a1, .inl (cy 1, xs.length, .inl f1)), (a2, .inl (cy 1, ys.length, .inl f2)), (a3, .inl (cy 1, xs.length + ys.length, .inl q))] 1 64 13 [(4, .int (nI k)), (3, .int (nI ((red (seg (gd (xs ++ ys)) 0 k)).length))), (2, .ref a3), (0, .ref a1), (1, .ref a2)] [] := by
    intro d9
    induction d9 with
    | zero => intro k q hd9; exact absurd hd9 (Nat.not_lt_zero _)
    | succ d9 ih =>
      intro k q hd9 hk hq
      refine j_iload C 0 rfl dL_joined_13 ?_
      refine j_aload_n C rfl 2 rfl dL_joined_15 ?_
      refine j_alen C 2 1 rfl rfl (v := (nI (xs.length + ys.length))) rfl dL_joined_16 ?_
      refine j_icmp_ge C (P := xs.length + ys.length ≤ k) (nI_leI (by omega) (by omega)) (tgt := 79) (by decide) dL_joined_17 (fun ha => ?_) (fun hb => ?_)
      · have hk9 : k = xs.length + ys.length := by omega
        subst hk9
        rw [show seg (gd (xs ++ ys)) 0 (xs.length + ys.length) = xs ++ ys by rw [← List.length_append]; exact gd_all _] at hq ⊢
        have hrl := red_len (xs ++ ys)
        rw [List.length_append] at hrl
        refine j_iload_n C rfl 1 rfl dL_joined_79 ?_
        refine j_newa C (at9 := .int) 1 (by decide +kernel) rfl rfl (N := (red (xs ++ ys)).length) (a0 := ((red (xs ++ ys)).length, .inl (fun _ => 0))) (k1 := 2) (n1 := 128) (fun _ => rfl) (nI_pos (by omega)) (nI_clamp (by omega)) (by show ((red (xs ++ ys)).length) * 4 ≤ 536870912; omega) (Nat.le_of_ble_eq_true rfl) (by show 64 + ((red (xs ++ ys)).length) ≤ 128; omega) (Nat.le_refl _) (by omega) dL_joined_80 (fun a4 => ?_)
        refine j_astore C (lo1 := [(4, .ref a4), (3, .int (nI ((red (xs ++ ys)).length))), (2, .ref a3), (0, .ref a1), (1, .ref a2)]) (by decide) rfl dL_joined_82 ?_
        refine j_iconst C (v := (nI 0)) (by decide +kernel) dL_joined_84 ?_
        refine j_istore C (lo1 := [(5, .int (nI 0)), (4, .ref a4), (3, .int (nI ((red (xs ++ ys)).length))), (2, .ref a3), (0, .ref a1), (1, .ref a2)]) (by decide) rfl dL_joined_85 ?_
        refine j_lo (lo1 := [(5, .int (nI 0)), (4, .ref a4), (3, .int (nI ((red (xs ++ ys)).length))), (2, .ref a3)]) [0, 1, 2, 3] rfl ?_
        have lp2 : ∀ (d9 : Nat) (i : Nat) (g : Nat → Int32), (red (xs ++ ys)).length - i < d9 → (i ≤ (red (xs ++ ys)).length) → (∀ i9, i9 < i → g i9 = q i9) → J p l e (fz_rm 0 2 128 0) s m args below meth c (MQ below (va_Qr (fun _ => True) (fz_Br G (fun (u : Nat → Int32) (_ : Nat) => Hd u (red (xs ++ ys))) (fun u a => [(a1, .inl (cy 1, xs.length, .inl f1)), (a2, .inl (cy 1, ys.length, .inl f2)), (a, .inl (cy 1, (red (xs ++ ys)).length, .inl u))]) A) A) args s 2 128 A) G A 6 [(a1, .inl (cy 1, xs.length, .inl f1)), (a2, .inl (cy 1, ys.length, .inl f2)), (a3, .inl (cy 1, xs.length + ys.length, .inl q)), (a4, .inl (cy 1, (red (xs ++ ys)).length, .inl g))] 2 128 87 [(5, .int (nI i)), (4, .ref a4), (3, .int (nI ((red (xs ++ ys)).length))), (2, .ref a3)] [] := by
          intro d9
          induction d9 with
          | zero => intro i g hd9; exact absurd hd9 (Nat.not_lt_zero _)
          | succ d9 ih =>
            intro i g hd9 hi hg
            refine j_iload C 0 rfl dL_joined_87 ?_
            refine j_iload_n C rfl 2 rfl dL_joined_89 ?_
            refine j_icmp_ge C (P := (red (xs ++ ys)).length ≤ i) (nI_leI (by omega) (by omega)) (tgt := 108) (by decide) dL_joined_90 (fun ha => ?_) (fun hb => ?_)
            · refine j_aload C 1 rfl dL_joined_108 ?_
              exact j_aret C rfl (Or.inr ⟨_, rfl⟩) (g) (fun i9 h9 => by rw [hg i9 (by omega), hq i9 h9]) [0, 1, 3] rfl (by decide) (Nat.le_of_ble_eq_true rfl) (Nat.le_of_ble_eq_true rfl) dL_joined_110
            · refine j_aload C 1 rfl dL_joined_93 ?_
              refine j_iload C 0 rfl dL_joined_95 ?_
              refine j_aload_n C rfl 3 rfl dL_joined_97 ?_
              refine j_iload C 0 rfl dL_joined_98 ?_
              refine j_iald C 2 rfl (j := i) (by omega) (by omega) (v := (q i)) (rfl) dL_joined_100 ?_
              refine j_iast C 3 rfl (j := i) (by omega) (by omega) (ws1 := [(a1, .inl (cy 1, xs.length, .inl f1)), (a2, .inl (cy 1, ys.length, .inl f2)), (a3, .inl (cy 1, xs.length + ys.length, .inl q)), (a4, .inl (cy 1, (red (xs ++ ys)).length, .inl (upd g i (q i))))]) rfl dL_joined_101 ?_
              refine j_iinc C (v := (nI (i + 1))) (lo1 := [(5, .int (nI (i + 1))), (4, .ref a4), (3, .int (nI ((red (xs ++ ys)).length))), (2, .ref a3)]) 0 rfl (fx_inc i 1) (by decide) rfl dL_joined_102 ?_
              refine j_goto C (tgt := 87) (by decide) dL_joined_105 ?_
              refine j_lo (lo1 := [(5, .int (nI (i + 1))), (4, .ref a4), (3, .int (nI ((red (xs ++ ys)).length))), (2, .ref a3)]) [0, 1, 2, 3] rfl ?_
              exact ih (i + 1) _ (by omega) (by omega) (fun i9 h9 => by
                rcases Nat.lt_or_ge i9 i with z | z
                · rw [pk_un (by omega)]; exact hg i9 z
                · rw [show i9 = i by omega, pk_us])
        exact lp2 ((red (xs ++ ys)).length + 1) 0 (fun _ => 0) (by omega) (by omega) (fun i9 h9 => absurd h9 (Nat.not_lt_zero _))
      · have hcl := red_len (seg (gd (xs ++ ys)) 0 k)
        rw [seg_len] at hcl
        refine j_iload C 0 rfl dL_joined_20 ?_
        refine j_aload_n C rfl 3 rfl dL_joined_22 ?_
        refine j_alen C 0 1 rfl rfl (v := (nI xs.length)) rfl dL_joined_23 ?_
        refine j_icmp_ge C (P := xs.length ≤ k) (nI_leI (by omega) (by omega)) (tgt := 34) (by decide) dL_joined_24 (fun hx => ?_) (fun hy => ?_)
        · have hc6 : L6 (red (seg (gd (xs ++ ys)) 0 k)) := L6_red (L6_seg hz6 (by rw [List.length_append]; omega))
          refine j_aload_n C rfl 4 rfl dL_joined_34 ?_
          refine j_iload C 0 rfl dL_joined_35 ?_
          refine j_aload_n C rfl 3 rfl dL_joined_37 ?_
          refine j_alen C 0 1 rfl rfl (v := (nI xs.length)) rfl dL_joined_38 ?_
          refine j_isub C (v := (nI (k - xs.length))) (pk_sub (by omega)) dL_joined_39 ?_
          have hlt := gd_app2 (ys := ys) hx
          refine j_iald C 1 rfl (j := k - xs.length) (by omega) (by omega) (v := (nI (gd (xs ++ ys) k))) (by rw [hlt]; exact hf2 _ (by omega)) dL_joined_40 ?_
          have hz7 : ∀ i, i < xs.length + ys.length → gd (xs ++ ys) i < 6 := fun i h => hz6 i (by rw [List.length_append]; exact h)
          clear hz6
          have hz6 := hz7
          refine j_istore C (lo1 := [(5, .int (nI (gd (xs ++ ys) k))), (4, .int (nI k)), (3, .int (nI ((red (seg (gd (xs ++ ys)) 0 k)).length))), (2, .ref a3), (0, .ref a1), (1, .ref a2)]) (by decide) rfl dL_joined_41 ?_
          have hst : psh (red (seg (gd (xs ++ ys)) 0 k)) (gd (xs ++ ys) k) = red (seg (gd (xs ++ ys)) 0 (k + 1)) := by rw [seg_snoc, Nat.zero_add, red, red, act_app]; rfl
          refine j_iload_n C rfl 2 rfl dL_joined_43 ?_
          refine j_if_le C (P := (red (seg (gd (xs ++ ys)) 0 k)).length = 0) (fx_le0 (by omega)) (tgt := 65) (by decide) dL_joined_44 (fun h0 => ?_) (fun h0 => ?_)
          · have hps := psh_other (xs := red (seg (gd (xs ++ ys)) 0 k)) (a := gd (xs ++ ys) k) (fun z9 => absurd z9 (by omega))
            refine j_aload_n C rfl 3 rfl dL_joined_65 ?_
            refine j_iload_n C rfl 2 rfl dL_joined_66 ?_
            refine j_iload C 0 rfl dL_joined_67 ?_
            refine j_iast C 2 rfl (j := (red (seg (gd (xs ++ ys)) 0 k)).length) (by omega) (by omega) (ws1 := [(a1, .inl (cy 1, xs.length, .inl f1)), (a2, .inl (cy 1, ys.length, .inl f2)), (a3, .inl (cy 1, xs.length + ys.length, .inl (upd q ((red (seg (gd (xs ++ ys)) 0 k)).length) (nI (gd (xs ++ ys) k)))))]) rfl dL_joined_69 ?_
            refine j_iinc C (v := (nI ((red (seg (gd (xs ++ ys)) 0 k)).length + 1))) (lo1 := [(3, .int (nI ((red (seg (gd (xs ++ ys)) 0 k)).length + 1))), (5, .int (nI (gd (xs ++ ys) k))), (4, .int (nI k)), (2, .ref a3), (0, .ref a1), (1, .ref a2)]) 2 rfl (fx_inc ((red (seg (gd (xs ++ ys)) 0 k)).length) 1) (by decide) rfl dL_joined_70 ?_
            have hln : (red (seg (gd (xs ++ ys)) 0 (k + 1))).length = (red (seg (gd (xs ++ ys)) 0 k)).length + 1 := by rw [← hst, hps, List.length_append]; rfl
            rw [← hln]
            refine j_iinc C (v := (nI (k + 1))) (lo1 := [(4, .int (nI (k + 1))), (3, .int (nI ((red (seg (gd (xs ++ ys)) 0 (k + 1))).length))), (5, .int (nI (gd (xs ++ ys) k))), (2, .ref a3), (0, .ref a1), (1, .ref a2)]) 2 rfl (fx_inc k 1) (by decide) rfl dL_joined_73 ?_
            refine j_goto C (tgt := 13) (by decide) dL_joined_76 ?_
            refine j_lo (lo1 := [(4, .int (nI (k + 1))), (3, .int (nI ((red (seg (gd (xs ++ ys)) 0 (k + 1))).length))), (2, .ref a3), (0, .ref a1), (1, .ref a2)]) [0, 1, 3, 4, 5] rfl ?_
            exact ih (k + 1) _ (by omega) (by omega) (by rw [← hst, hps]; exact Hd_put hq)
          · refine j_aload_n C rfl 3 rfl dL_joined_47 ?_
            refine j_iload_n C rfl 2 rfl dL_joined_48 ?_
            refine j_iconst C (v := (nI 1)) (by decide +kernel) dL_joined_49 ?_
            refine j_isub C (v := (nI ((red (seg (gd (xs ++ ys)) 0 k)).length - 1))) (pk_sub (by omega)) dL_joined_50 ?_
            refine j_iald C 2 rfl (j := (red (seg (gd (xs ++ ys)) 0 k)).length - 1) (by omega) (by omega) (v := (nI (gd (red (seg (gd (xs ++ ys)) 0 k)) ((red (seg (gd (xs ++ ys)) 0 k)).length - 1)))) (hq _ (by omega)) dL_joined_51 ?_
            refine j_iconst C (v := (nI 1)) (by decide +kernel) dL_joined_52 ?_
            refine j_ixor C (v := (nI (fv (gd (red (seg (gd (xs ++ ys)) 0 k)) ((red (seg (gd (xs ++ ys)) 0 k)).length - 1))))) (fx_fv (gd (red (seg (gd (xs ++ ys)) 0 k)) ((red (seg (gd (xs ++ ys)) 0 k)).length - 1))) dL_joined_53 ?_
            refine j_iload C 0 rfl dL_joined_54 ?_
            refine j_icmp_ne C (P := fv (gd (red (seg (gd (xs ++ ys)) 0 k)) ((red (seg (gd (xs ++ ys)) 0 k)).length - 1)) = gd (xs ++ ys) k) (nI_eq (Nat.lt_trans (fv_lt _ (hc6 _ (by omega))) (by decide)) (Nat.lt_trans (hz6 k (by omega)) (by decide))) (tgt := 65) (by decide) dL_joined_56 (fun hn => ?_) (fun hy9 => ?_)
            · have hps := psh_other (xs := red (seg (gd (xs ++ ys)) 0 k)) (a := gd (xs ++ ys) k) (fun _ z9 => hn (fv_eq.mp z9))
              refine j_aload_n C rfl 3 rfl dL_joined_65 ?_
              refine j_iload_n C rfl 2 rfl dL_joined_66 ?_
              refine j_iload C 0 rfl dL_joined_67 ?_
              refine j_iast C 2 rfl (j := (red (seg (gd (xs ++ ys)) 0 k)).length) (by omega) (by omega) (ws1 := [(a1, .inl (cy 1, xs.length, .inl f1)), (a2, .inl (cy 1, ys.length, .inl f2)), (a3, .inl (cy 1, xs.length + ys.length, .inl (upd q ((red (seg (gd (xs ++ ys)) 0 k)).length) (nI (gd (xs ++ ys) k)))))]) rfl dL_joined_69 ?_
              refine j_iinc C (v := (nI ((red (seg (gd (xs ++ ys)) 0 k)).length + 1))) (lo1 := [(3, .int (nI ((red (seg (gd (xs ++ ys)) 0 k)).length + 1))), (5, .int (nI (gd (xs ++ ys) k))), (4, .int (nI k)), (2, .ref a3), (0, .ref a1), (1, .ref a2)]) 2 rfl (fx_inc ((red (seg (gd (xs ++ ys)) 0 k)).length) 1) (by decide) rfl dL_joined_70 ?_
              have hln : (red (seg (gd (xs ++ ys)) 0 (k + 1))).length = (red (seg (gd (xs ++ ys)) 0 k)).length + 1 := by rw [← hst, hps, List.length_append]; rfl
              rw [← hln]
              refine j_iinc C (v := (nI (k + 1))) (lo1 := [(4, .int (nI (k + 1))), (3, .int (nI ((red (seg (gd (xs ++ ys)) 0 (k + 1))).length))), (5, .int (nI (gd (xs ++ ys) k))), (2, .ref a3), (0, .ref a1), (1, .ref a2)]) 2 rfl (fx_inc k 1) (by decide) rfl dL_joined_73 ?_
              refine j_goto C (tgt := 13) (by decide) dL_joined_76 ?_
              refine j_lo (lo1 := [(4, .int (nI (k + 1))), (3, .int (nI ((red (seg (gd (xs ++ ys)) 0 (k + 1))).length))), (2, .ref a3), (0, .ref a1), (1, .ref a2)]) [0, 1, 3, 4, 5] rfl ?_
              exact ih (k + 1) _ (by omega) (by omega) (by rw [← hst, hps]; exact Hd_put hq)
            · have hps := psh_last (xs := red (seg (gd (xs ++ ys)) 0 k)) (a := gd (xs ++ ys) k) (by omega) (fv_eq.mpr hy9)
              rw [hst] at hps
              refine j_iinc C (v := (nI ((red (seg (gd (xs ++ ys)) 0 (k + 1))).length))) (lo1 := [(3, .int (nI ((red (seg (gd (xs ++ ys)) 0 (k + 1))).length))), (5, .int (nI (gd (xs ++ ys) k))), (4, .int (nI k)), (2, .ref a3), (0, .ref a1), (1, .ref a2)]) 2 rfl (by rw [hps.1]; exact fx_dec1 (by omega)) (by decide) rfl dL_joined_59 ?_
              refine j_goto C (tgt := 73) (by decide) dL_joined_62 ?_
              refine j_iinc C (v := (nI (k + 1))) (lo1 := [(4, .int (nI (k + 1))), (3, .int (nI ((red (seg (gd (xs ++ ys)) 0 (k + 1))).length))), (5, .int (nI (gd (xs ++ ys) k))), (2, .ref a3), (0, .ref a1), (1, .ref a2)]) 2 rfl (fx_inc k 1) (by decide) rfl dL_joined_73 ?_
              refine j_goto C (tgt := 13) (by decide) dL_joined_76 ?_
              refine j_lo (lo1 := [(4, .int (nI (k + 1))), (3, .int (nI ((red (seg (gd (xs ++ ys)) 0 (k + 1))).length))), (2, .ref a3), (0, .ref a1), (1, .ref a2)]) [0, 1, 3, 4, 5] rfl ?_
              exact ih (k + 1) _ (by omega) (by omega) (hps.2 _ hq)
        · have hc6 : L6 (red (seg (gd (xs ++ ys)) 0 k)) := L6_red (L6_seg hz6 (by rw [List.length_append]; omega))
          refine j_aload_n C rfl 3 rfl dL_joined_27 ?_
          refine j_iload C 0 rfl dL_joined_28 ?_
          have hlt := gd_app1 (ys := ys) (show k < xs.length by omega)
          refine j_iald C 0 rfl (j := k) (by omega) (by omega) (v := (nI (gd (xs ++ ys) k))) (by rw [hlt]; exact hf1 _ (by omega)) dL_joined_30 ?_
          refine j_goto C (tgt := 41) (by decide) dL_joined_31 ?_
          have hz7 : ∀ i, i < xs.length + ys.length → gd (xs ++ ys) i < 6 := fun i h => hz6 i (by rw [List.length_append]; exact h)
          clear hz6
          have hz6 := hz7
          refine j_istore C (lo1 := [(5, .int (nI (gd (xs ++ ys) k))), (4, .int (nI k)), (3, .int (nI ((red (seg (gd (xs ++ ys)) 0 k)).length))), (2, .ref a3), (0, .ref a1), (1, .ref a2)]) (by decide) rfl dL_joined_41 ?_
          have hst : psh (red (seg (gd (xs ++ ys)) 0 k)) (gd (xs ++ ys) k) = red (seg (gd (xs ++ ys)) 0 (k + 1)) := by rw [seg_snoc, Nat.zero_add, red, red, act_app]; rfl
          refine j_iload_n C rfl 2 rfl dL_joined_43 ?_
          refine j_if_le C (P := (red (seg (gd (xs ++ ys)) 0 k)).length = 0) (fx_le0 (by omega)) (tgt := 65) (by decide) dL_joined_44 (fun h0 => ?_) (fun h0 => ?_)
          · have hps := psh_other (xs := red (seg (gd (xs ++ ys)) 0 k)) (a := gd (xs ++ ys) k) (fun z9 => absurd z9 (by omega))
            refine j_aload_n C rfl 3 rfl dL_joined_65 ?_
            refine j_iload_n C rfl 2 rfl dL_joined_66 ?_
            refine j_iload C 0 rfl dL_joined_67 ?_
            refine j_iast C 2 rfl (j := (red (seg (gd (xs ++ ys)) 0 k)).length) (by omega) (by omega) (ws1 := [(a1, .inl (cy 1, xs.length, .inl f1)), (a2, .inl (cy 1, ys.length, .inl f2)), (a3, .inl (cy 1, xs.length + ys.length, .inl (upd q ((red (seg (gd (xs ++ ys)) 0 k)).length) (nI (gd (xs ++ ys) k)))))]) rfl dL_joined_69 ?_
            refine j_iinc C (v := (nI ((red (seg (gd (xs ++ ys)) 0 k)).length + 1))) (lo1 := [(3, .int (nI ((red (seg (gd (xs ++ ys)) 0 k)).length + 1))), (5, .int (nI (gd (xs ++ ys) k))), (4, .int (nI k)), (2, .ref a3), (0, .ref a1), (1, .ref a2)]) 2 rfl (fx_inc ((red (seg (gd (xs ++ ys)) 0 k)).length) 1) (by decide) rfl dL_joined_70 ?_
            have hln : (red (seg (gd (xs ++ ys)) 0 (k + 1))).length = (red (seg (gd (xs ++ ys)) 0 k)).length + 1 := by rw [← hst, hps, List.length_append]; rfl
            rw [← hln]
            refine j_iinc C (v := (nI (k + 1))) (lo1 := [(4, .int (nI (k + 1))), (3, .int (nI ((red (seg (gd (xs ++ ys)) 0 (k + 1))).length))), (5, .int (nI (gd (xs ++ ys) k))), (2, .ref a3), (0, .ref a1), (1, .ref a2)]) 2 rfl (fx_inc k 1) (by decide) rfl dL_joined_73 ?_
            refine j_goto C (tgt := 13) (by decide) dL_joined_76 ?_
            refine j_lo (lo1 := [(4, .int (nI (k + 1))), (3, .int (nI ((red (seg (gd (xs ++ ys)) 0 (k + 1))).length))), (2, .ref a3), (0, .ref a1), (1, .ref a2)]) [0, 1, 3, 4, 5] rfl ?_
            exact ih (k + 1) _ (by omega) (by omega) (by rw [← hst, hps]; exact Hd_put hq)
          · refine j_aload_n C rfl 3 rfl dL_joined_47 ?_
            refine j_iload_n C rfl 2 rfl dL_joined_48 ?_
            refine j_iconst C (v := (nI 1)) (by decide +kernel) dL_joined_49 ?_
            refine j_isub C (v := (nI ((red (seg (gd (xs ++ ys)) 0 k)).length - 1))) (pk_sub (by omega)) dL_joined_50 ?_
            refine j_iald C 2 rfl (j := (red (seg (gd (xs ++ ys)) 0 k)).length - 1) (by omega) (by omega) (v := (nI (gd (red (seg (gd (xs ++ ys)) 0 k)) ((red (seg (gd (xs ++ ys)) 0 k)).length - 1)))) (hq _ (by omega)) dL_joined_51 ?_
            refine j_iconst C (v := (nI 1)) (by decide +kernel) dL_joined_52 ?_
            refine j_ixor C (v := (nI (fv (gd (red (seg (gd (xs ++ ys)) 0 k)) ((red (seg (gd (xs ++ ys)) 0 k)).length - 1))))) (fx_fv (gd (red (seg (gd (xs ++ ys)) 0 k)) ((red (seg (gd (xs ++ ys)) 0 k)).length - 1))) dL_joined_53 ?_
            refine j_iload C 0 rfl dL_joined_54 ?_
            refine j_icmp_ne C (P := fv (gd (red (seg (gd (xs ++ ys)) 0 k)) ((red (seg (gd (xs ++ ys)) 0 k)).length - 1)) = gd (xs ++ ys) k) (nI_eq (Nat.lt_trans (fv_lt _ (hc6 _ (by omega))) (by decide)) (Nat.lt_trans (hz6 k (by omega)) (by decide))) (tgt := 65) (by decide) dL_joined_56 (fun hn => ?_) (fun hy9 => ?_)
            · have hps := psh_other (xs := red (seg (gd (xs ++ ys)) 0 k)) (a := gd (xs ++ ys) k) (fun _ z9 => hn (fv_eq.mp z9))
              refine j_aload_n C rfl 3 rfl dL_joined_65 ?_
              refine j_iload_n C rfl 2 rfl dL_joined_66 ?_
              refine j_iload C 0 rfl dL_joined_67 ?_
              refine j_iast C 2 rfl (j := (red (seg (gd (xs ++ ys)) 0 k)).length) (by omega) (by omega) (ws1 := [(a1, .inl (cy 1, xs.length, .inl f1)), (a2, .inl (cy 1, ys.length, .inl f2)), (a3, .inl (cy 1, xs.length + ys.length, .inl (upd q ((red (seg (gd (xs ++ ys)) 0 k)).length) (nI (gd (xs ++ ys) k)))))]) rfl dL_joined_69 ?_
              refine j_iinc C (v := (nI ((red (seg (gd (xs ++ ys)) 0 k)).length + 1))) (lo1 := [(3, .int (nI ((red (seg (gd (xs ++ ys)) 0 k)).length + 1))), (5, .int (nI (gd (xs ++ ys) k))), (4, .int (nI k)), (2, .ref a3), (0, .ref a1), (1, .ref a2)]) 2 rfl (fx_inc ((red (seg (gd (xs ++ ys)) 0 k)).length) 1) (by decide) rfl dL_joined_70 ?_
              have hln : (red (seg (gd (xs ++ ys)) 0 (k + 1))).length = (red (seg (gd (xs ++ ys)) 0 k)).length + 1 := by rw [← hst, hps, List.length_append]; rfl
              rw [← hln]
              refine j_iinc C (v := (nI (k + 1))) (lo1 := [(4, .int (nI (k + 1))), (3, .int (nI ((red (seg (gd (xs ++ ys)) 0 (k + 1))).length))), (5, .int (nI (gd (xs ++ ys) k))), (2, .ref a3), (0, .ref a1), (1, .ref a2)]) 2 rfl (fx_inc k 1) (by decide) rfl dL_joined_73 ?_
              refine j_goto C (tgt := 13) (by decide) dL_joined_76 ?_
              refine j_lo (lo1 := [(4, .int (nI (k + 1))), (3, .int (nI ((red (seg (gd (xs ++ ys)) 0 (k + 1))).length))), (2, .ref a3), (0, .ref a1), (1, .ref a2)]) [0, 1, 3, 4, 5] rfl ?_
              exact ih (k + 1) _ (by omega) (by omega) (by rw [← hst, hps]; exact Hd_put hq)
            · have hps := psh_last (xs := red (seg (gd (xs ++ ys)) 0 k)) (a := gd (xs ++ ys) k) (by omega) (fv_eq.mpr hy9)
              rw [hst] at hps
              refine j_iinc C (v := (nI ((red (seg (gd (xs ++ ys)) 0 (k + 1))).length))) (lo1 := [(3, .int (nI ((red (seg (gd (xs ++ ys)) 0 (k + 1))).length))), (5, .int (nI (gd (xs ++ ys) k))), (4, .int (nI k)), (2, .ref a3), (0, .ref a1), (1, .ref a2)]) 2 rfl (by rw [hps.1]; exact fx_dec1 (by omega)) (by decide) rfl dL_joined_59 ?_
              refine j_goto C (tgt := 73) (by decide) dL_joined_62 ?_
              refine j_iinc C (v := (nI (k + 1))) (lo1 := [(4, .int (nI (k + 1))), (3, .int (nI ((red (seg (gd (xs ++ ys)) 0 (k + 1))).length))), (5, .int (nI (gd (xs ++ ys) k))), (2, .ref a3), (0, .ref a1), (1, .ref a2)]) 2 rfl (fx_inc k 1) (by decide) rfl dL_joined_73 ?_
              refine j_goto C (tgt := 13) (by decide) dL_joined_76 ?_
              refine j_lo (lo1 := [(4, .int (nI (k + 1))), (3, .int (nI ((red (seg (gd (xs ++ ys)) 0 (k + 1))).length))), (2, .ref a3), (0, .ref a1), (1, .ref a2)]) [0, 1, 3, 4, 5] rfl ?_
              exact ih (k + 1) _ (by omega) (by omega) (hps.2 _ hq)
  exact lp (xs.length + ys.length + 1) 0 (fun _ => 0) (by omega) (by omega) (Hd_nil _)
set_option maxHeartbeats 4000000 in
set_option maxRecDepth 100000 in
/-- turned -/
theorem c_L_turned {l : Launch} {G : va_G} {cy : Nat → ClassId} {a1 : Nat} {xs : List Nat} {f1 : Nat → Int32} (hf1 : Hd f1 xs) (hl : xs.length ≤ 64) : Kr l yL_turned wsL_turned G cy [.ref a1] [(a1, .inl (cy 1, xs.length, .inl f1))] (fun (u : Nat → Int32) (_ : Nat) => Hd u (iv xs)) (fun u a => [(a1, .inl (cy 1, xs.length, .inl f1)), (a, .inl (cy 1, (iv xs).length, .inl u))]) 0 1 64 0 := by
  refine Kr_of (cc := cL_turned) (nL := 3) (by decide) rfl (Nat.le_of_ble_eq_true rfl) ?_
  intro p e s m args below meth c A C hnm
  refine j_lo (lo1 := [(0, .ref a1)]) [0] rfl ?_
  refine j_aload_n C rfl 0 rfl dL_turned_0 ?_
  refine j_alen C 0 1 rfl rfl (v := (nI xs.length)) rfl dL_turned_1 ?_
  refine j_newa C (at9 := .int) 1 (by decide +kernel) rfl rfl (N := xs.length) (a0 := (xs.length, .inl (fun _ => 0))) (k1 := 1) (n1 := 64) (fun _ => rfl) (nI_pos (by omega)) (nI_clamp (by omega)) (by show xs.length * 4 ≤ 536870912; omega) (Nat.le_of_ble_eq_true rfl) (by show 0 + xs.length ≤ 64; omega) (Nat.le_refl _) (by omega) dL_turned_2 (fun a3 => ?_)
  refine j_astore_n C (lo1 := [(1, .ref a3), (0, .ref a1)]) rfl (by decide) rfl dL_turned_4 ?_
  refine j_iconst C (v := (nI 0)) (by decide +kernel) dL_turned_5 ?_
  refine j_istore_n C (lo1 := [(2, .int (nI 0)), (1, .ref a3), (0, .ref a1)]) rfl (by decide) rfl dL_turned_6 ?_
  refine j_lo (lo1 := [(2, .int (nI 0)), (1, .ref a3), (0, .ref a1)]) [0, 1, 2] rfl ?_
  have lp : ∀ (d9 : Nat) (k : Nat) (g : Nat → Int32), xs.length - k < d9 → (k ≤ xs.length) → (∀ i9, i9 < k → g i9 = nI (gd (iv xs) i9)) → J p l e (fz_rm 0 1 64 0) s m args below meth c (MQ below (va_Qr (fun _ => True) (fz_Br G (fun (u : Nat → Int32) (_ : Nat) => Hd u (iv xs)) (fun u a => [(a1, .inl (cy 1, xs.length, .inl f1)), (a, .inl (cy 1, (iv xs).length, .inl u))]) A) A) args s 1 64 A) G A 3 [(a1, .inl (cy 1, xs.length, .inl f1)), (a3, .inl (cy 1, xs.length, .inl g))] 1 64 7 [(2, .int (nI k)), (1, .ref a3), (0, .ref a1)] [] := by
    intro d9
    induction d9 with
    | zero => intro k g hd9; exact absurd hd9 (Nat.not_lt_zero _)
    | succ d9 ih =>
      intro k g hd9 hk hg
      refine j_iload_n C rfl 0 rfl dL_turned_7 ?_
      refine j_aload_n C rfl 2 rfl dL_turned_8 ?_
      refine j_alen C 0 1 rfl rfl (v := (nI xs.length)) rfl dL_turned_9 ?_
      refine j_icmp_ge C (P := xs.length ≤ k) (nI_leI (by omega) (by omega)) (tgt := 32) (by decide) dL_turned_10 (fun ha => ?_) (fun hb => ?_)
      · refine j_aload_n C rfl 1 rfl dL_turned_32 ?_
        refine j_weq (ws1 := [(a1, .inl (cy 1, xs.length, .inl f1)), (a3, .inl (cy 1, (iv xs).length, .inl g))]) (by rw [iv_len]) ?_
        exact j_aret C rfl (Or.inr ⟨_, rfl⟩) (g) (fun i9 h9 => hg i9 (by rw [iv_len] at h9; omega)) [0, 1] rfl (by decide) (Nat.le_of_ble_eq_true rfl) (Nat.le_of_ble_eq_true rfl) dL_turned_33
      · refine j_aload_n C rfl 1 rfl dL_turned_13 ?_
        refine j_iload_n C rfl 0 rfl dL_turned_14 ?_
        refine j_aload_n C rfl 2 rfl dL_turned_15 ?_
        refine j_aload_n C rfl 2 rfl dL_turned_16 ?_
        refine j_alen C 0 1 rfl rfl (v := (nI xs.length)) rfl dL_turned_17 ?_
        refine j_iconst C (v := (nI 1)) (by decide +kernel) dL_turned_18 ?_
        refine j_isub C (v := (nI (xs.length - 1))) (pk_sub (by omega)) dL_turned_19 ?_
        refine j_iload_n C rfl 0 rfl dL_turned_20 ?_
        refine j_isub C (v := (nI (xs.length - 1 - k))) (pk_sub (by omega)) dL_turned_21 ?_
        refine j_iald C 0 rfl (j := xs.length - 1 - k) (by omega) (by omega) (v := (nI (gd xs (xs.length - 1 - k)))) (hf1 _ (by omega)) dL_turned_22 ?_
        refine j_iconst C (v := (nI 1)) (by decide +kernel) dL_turned_23 ?_
        refine j_ixor C (v := (nI (fv (gd xs (xs.length - 1 - k))))) (fx_fv (gd xs (xs.length - 1 - k))) dL_turned_24 ?_
        refine j_iast C 1 rfl (j := k) (by omega) (by omega) (ws1 := [(a1, .inl (cy 1, xs.length, .inl f1)), (a3, .inl (cy 1, xs.length, .inl (upd g k (nI (fv (gd xs (xs.length - 1 - k)))))))]) rfl dL_turned_25 ?_
        refine j_iinc C (v := (nI (k + 1))) (lo1 := [(2, .int (nI (k + 1))), (1, .ref a3), (0, .ref a1)]) 0 rfl (fx_inc k 1) (by decide) rfl dL_turned_26 ?_
        refine j_goto C (tgt := 7) (by decide) dL_turned_29 ?_
        refine j_lo (lo1 := [(2, .int (nI (k + 1))), (1, .ref a3), (0, .ref a1)]) [0, 1, 2] rfl ?_
        exact ih (k + 1) _ (by omega) (by omega) (fun i9 h9 => by
          rcases Nat.lt_or_ge i9 k with z | z
          · rw [pk_un (by omega)]; exact hg i9 z
          · rw [show i9 = k by omega, pk_us, gd_iv (by omega)])
  exact lp (xs.length + 1) 0 (fun _ => 0) (by omega) (by omega) (fun i9 h9 => absurd h9 (Nat.not_lt_zero _))
theorem hdS_L_in : yL_in.cls ≠ "java/lang/invoke/MethodHandle" ∧ yL_in.cls ≠ "java/lang/invoke/VarHandle" ∧ (parseMethodDescriptor yL_in.desc).map (fun d => d.parameters.length) = some 3 := by decide +kernel
theorem hdS_L_joined : yL_joined.cls ≠ "java/lang/invoke/MethodHandle" ∧ yL_joined.cls ≠ "java/lang/invoke/VarHandle" ∧ (parseMethodDescriptor yL_joined.desc).map (fun d => d.parameters.length) = some 2 := by decide +kernel
set_option maxHeartbeats 4000000 in
set_option maxRecDepth 100000 in
/-- some -/
theorem c_L_some {l : Launch} {G : va_G} {cy : Nat → ClassId} {i n9 : Nat} (hL : cy 10 < 2 ^ 31) (hi : i < 1000) (hn : n9 ≤ 20) : Kr l yL_some wsL_some G cy [.ref (cy 9), .int (nI i), .int (nI n9)] [] (fun (u : (Nat → Int32) × List Nat) (_ : Nat) => Hd u.1 u.2 ∧ Rd u.2 ∧ L6 u.2 ∧ u.2.length ≤ n9) (fun u a => [(a, .inl (cy 1, u.2.length, .inl u.1))]) 2 4 148 44 := by
  refine Kr_of (cc := cL_some) (nL := 5) (by decide) rfl (Nat.le_of_ble_eq_true rfl) ?_
  intro p e s m args below meth c A C hnm
  refine j_lo (lo1 := [(0, .ref (cy 9)), (1, .int (nI i)), (2, .int (nI n9))]) [0, 1, 2] rfl ?_
  refine j_iload_n C rfl 2 rfl dL_some_0 ?_
  refine j_newa C (at9 := .int) 1 (by decide +kernel) rfl rfl (N := n9) (a0 := (n9, .inl (fun _ => 0))) (k1 := 1) (n1 := 20) (fun _ => rfl) (nI_pos (by omega)) (nI_clamp (by omega)) (by show n9 * 4 ≤ 536870912; omega) (Nat.le_of_ble_eq_true rfl) (by show 0 + n9 ≤ 148; omega) (Nat.le_refl _) (by omega) dL_some_1 (fun a3 => ?_)
  refine j_astore_n C (lo1 := [(3, .ref a3), (0, .ref (cy 9)), (1, .int (nI i)), (2, .int (nI n9))]) rfl (by decide) rfl dL_some_3 ?_
  refine j_iconst C (v := (nI 0)) (by decide +kernel) dL_some_4 ?_
  refine j_istore C (lo1 := [(4, .int (nI 0)), (3, .ref a3), (0, .ref (cy 9)), (1, .int (nI i)), (2, .int (nI n9))]) (by decide) rfl dL_some_5 ?_
  refine j_lo (lo1 := [(4, .int (nI 0)), (3, .ref a3), (0, .ref (cy 9)), (1, .int (nI i)), (2, .int (nI n9))]) [0, 1, 2, 3, 4] rfl ?_
  have lp : ∀ (d9 : Nat) (ts : List Nat) (q : Nat → Int32), n9 - ts.length < d9 → (ts.length ≤ n9) → (L6 ts) → (Hd q ts) → J p l e (fz_rm 2 4 148 44) s m args below meth c (MQ below (va_Qr (fun _ => True) (fz_Br G (fun (u : (Nat → Int32) × List Nat) (_ : Nat) => Hd u.1 u.2 ∧ Rd u.2 ∧ L6 u.2 ∧ u.2.length ≤ n9) (fun u a => [(a, .inl (cy 1, u.2.length, .inl u.1))]) A) A) args s 4 148 A) G A 5 [(a3, .inl (cy 1, n9, .inl q))] 1 20 7 [(4, .int (nI ts.length)), (3, .ref a3), (0, .ref (cy 9)), (1, .int (nI i)), (2, .int (nI n9))] [] := by
    intro d9
    induction d9 with
    | zero => intro ts q hd9; exact absurd hd9 (Nat.not_lt_zero _)
    | succ d9 ih =>
      intro ts q hd9 hk h6 hq
      refine j_iload C 0 rfl dL_some_7 ?_
      refine j_iload_n C rfl 4 rfl dL_some_9 ?_
      refine j_icmp_ge C (P := n9 ≤ ts.length) (nI_leI (by omega) (by omega)) (tgt := 33) (by decide) dL_some_10 (fun ha => ?_) (fun hb => ?_)
      · have hn9 : n9 = ts.length := by omega
        subst hn9
        refine j_aload_n C rfl 1 rfl dL_some_33 ?_
        refine j_iconst C (v := (nI 0)) (by decide +kernel) dL_some_34 ?_
        refine j_newa C (at9 := .int) 1 (by decide +kernel) rfl rfl (N := 0) (a0 := (0, .inl (fun _ => 0))) (k1 := 2) (n1 := 20) (fun _ => rfl) (by decide) (by decide) (by decide) (Nat.le_of_ble_eq_true rfl) (Nat.le_of_ble_eq_true rfl) (Nat.le_refl _) (Nat.le_refl _) dL_some_35 (fun a4 => ?_)
        refine j_resr (k1 := 4) (n1 := 148) C (j_runS C (c_L_joined (xs := ts) (ys := []) h6 L6_nil hq (Hd_nil _) (by show ts.length + 0 ≤ 64; omega)) gL_some_L_joined rfl hdS_L_joined ⟨Nat.le_of_ble_eq_true rfl, Nat.le_of_ble_eq_true rfl⟩ ⟨Nat.le_of_ble_eq_true rfl, Nat.le_of_ble_eq_true rfl⟩ [0, 1] rfl (by decide) rfl (Nat.le_of_ble_eq_true rfl) dL_some_37) (wr := []) [] rfl (by decide) (by decide) (Nat.le_refl _) (Nat.le_refl _) (fun u a hu => ?_)
        rw [List.append_nil] at hu ⊢
        have hrl := red_len ts
        exact j_aret C rfl (Or.inr ⟨_, rfl⟩) ((u, red ts) : (Nat → Int32) × List Nat) ⟨hu, red_Rd ts, L6_red h6, hrl⟩ [2] rfl (by decide) (Nat.le_of_ble_eq_true rfl) (Nat.le_of_ble_eq_true rfl) dL_some_40
      · refine j_aload_n C rfl 1 rfl dL_some_13 ?_
        refine j_iload C 0 rfl dL_some_14 ?_
        refine j_aload_n C rfl 2 rfl dL_some_16 ?_
        refine j_iload_n C rfl 3 rfl dL_some_17 ?_
        refine j_iload C 0 rfl dL_some_18 ?_
        refine j_iadd C (v := (nI (i + ts.length))) (fx_add i ts.length) dL_some_20 ?_
        refine j_bipush C (v := (nI 6)) (by decide +kernel) dL_some_21 ?_
        refine j_resi (k1 := 1) (n1 := 20) C (j_runS C (c_L_in (n := 6) hL (by omega) (by decide) (by decide)) gL_some_L_in rfl hdS_L_in ⟨Nat.le_of_ble_eq_true rfl, Nat.le_of_ble_eq_true rfl⟩ ⟨Nat.le_of_ble_eq_true rfl, Nat.le_of_ble_eq_true rfl⟩ [] rfl (by decide) rfl (Nat.le_of_ble_eq_true rfl) dL_some_23) (wr := [(a3, .inl (cy 1, n9, .inl q))]) [0] rfl (by decide) (by decide) (Nat.le_refl _) (Nat.le_refl _) (fun v j hv => ?_)
        obtain ⟨hv, hj⟩ := hv
        subst hv
        refine j_iast C 0 rfl (j := ts.length) (by omega) (by omega) (ws1 := [(a3, .inl (cy 1, n9, .inl (upd q ts.length (nI j))))]) rfl dL_some_26 ?_
        have hln : (ts ++ [j]).length = ts.length + 1 := by rw [List.length_append]; rfl
        refine j_iinc C (v := (nI (ts.length + 1))) (lo1 := [(4, .int (nI (ts.length + 1))), (3, .ref a3), (0, .ref (cy 9)), (1, .int (nI i)), (2, .int (nI n9))]) 0 rfl (fx_inc ts.length 1) (by decide) rfl dL_some_27 ?_
        refine j_goto C (tgt := 7) (by decide) dL_some_30 ?_
        refine j_lo (lo1 := [(4, .int (nI (ts.length + 1))), (3, .ref a3), (0, .ref (cy 9)), (1, .int (nI i)), (2, .int (nI n9))]) [0, 1, 2, 3, 4] rfl ?_
        rw [← hln]
        exact ih (ts ++ [j]) _ (by omega) (by omega) (L6_app h6 (L6_mem.mpr (fun a ha => by rw [List.mem_singleton.mp ha]; exact hj))) (Hd_put hq)
  exact lp (n9 + 1) [] (fun _ => 0) (by show n9 - 0 < n9 + 1; omega) (Nat.zero_le _) L6_nil (Hd_nil _)
