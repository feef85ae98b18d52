theorem d_M_digits_0 : decode b_M_digits 0 = .ok (.iconst 0, 1) := by decide +kernel
theorem d_M_digits_1 : decode b_M_digits 1 = .ok (.istore_n 3, 1) := by decide +kernel
theorem d_M_digits_2 : decode b_M_digits 2 = .ok (.iload_n 1, 1) := by decide +kernel
theorem d_M_digits_3 : decode b_M_digits 3 = .ok (.iload_n 3, 1) := by decide +kernel
theorem d_M_digits_4 : decode b_M_digits 4 = .ok (.iadd, 1) := by decide +kernel
theorem d_M_digits_5 : decode b_M_digits 5 = .ok (.iload_n 2, 1) := by decide +kernel
theorem d_M_digits_6 : decode b_M_digits 6 = .ok (.if_icmp .ge (23), 3) := by decide +kernel
theorem d_M_digits_9 : decode b_M_digits 9 = .ok (.aload_n 0, 1) := by decide +kernel
theorem d_M_digits_10 : decode b_M_digits 10 = .ok (.getfield 13, 3) := by decide +kernel
theorem d_M_digits_13 : decode b_M_digits 13 = .ok (.iload_n 1, 1) := by decide +kernel
theorem d_M_digits_14 : decode b_M_digits 14 = .ok (.iload_n 3, 1) := by decide +kernel
theorem d_M_digits_15 : decode b_M_digits 15 = .ok (.iadd, 1) := by decide +kernel
theorem d_M_digits_16 : decode b_M_digits 16 = .ok (.iaload, 1) := by decide +kernel
theorem d_M_digits_17 : decode b_M_digits 17 = .ok (.invokestatic 85, 3) := by decide +kernel
theorem d_M_digits_20 : decode b_M_digits 20 = .ok (.ifCond .eq (9), 3) := by decide +kernel
theorem d_M_digits_23 : decode b_M_digits 23 = .ok (.iinc 3 (1), 3) := by decide +kernel
theorem d_M_digits_26 : decode b_M_digits 26 = .ok (.goto (-24), 3) := by decide +kernel
theorem d_M_digits_29 : decode b_M_digits 29 = .ok (.iload_n 3, 1) := by decide +kernel
theorem d_M_digits_30 : decode b_M_digits 30 = .ok (.ireturn, 1) := by decide +kernel
set_option maxHeartbeats 4000000 in
set_option maxRecDepth 100000 in
theorem c_M_digits (l : Launch) (D : va_G) (G : Nat → ClassId) (A : Nat → Prop) (Z : va_W) (h : Nat) (fs : List Value) (ta : Nat) (tx : Nat → Int32) (i : Nat) (j : Nat) (hf5 : fs[5]? = some (.ref ta)) (hj : j ≤ 2000) (hi : i < 2 ^ 30) : hq_FI l D G A y_M_digits b_M_digits 4 .int 1 [.ref h, .int (nI i), .int (nI j)] ([(h, .inr (8, fs)), hq_ai ta (G 0) 2000 tx] ++ Z) (nI (hq_ndg tx i (j - i))) ([(h, .inr (8, fs)), hq_ai ta (G 0) 2000 tx] ++ Z) := by
  refine hq_bI (by decide) (Nat.le_of_ble_eq_true rfl) (fun _ _ _ => rfl) ?_
  intro p e s m args below meth c Q hx hb hml hts hown hA hK hN hret ls H locs hl hP hD hS
  have hown : s.vm.findClass "HashedLearnerModel" = some m.cls := hown
  have hl : lv_has ls 4 [(0, .ref h), (1, .int (nI i)), (2, .int (nI j))] := hl
  refine lv_iconst (v := nI 0) hx hb d_M_digits_0 (by decide) ?_
  refine lv_istore_n (nL := 4) (lv' := [(3, .int (nI 0)), (0, .ref h), (1, .int (nI i)), (2, .int (nI j))]) hx hb d_M_digits_1 rfl hl (by decide) rfl (fun ls hl => ?_)
  have cut2 : ∀ (kz : Nat) (a : Nat) (ls : Array Slot) (H : Heap) (locs : List Loc), j - (i + a) = kz → (a < 2 ^ 30) → (hq_ndg tx i (j - i) = a + hq_ndg tx (i + a) (j - (i + a))) → lv_has ls 4 [(0, .ref h), (1, .int (nI i)), (2, .int (nI j)), (3, .int (nI a))] → va_P D hq_cl ([(h, .inr (8, fs)), hq_ai ta (G 0) 2000 tx] ++ Z) H → va_D A ([(h, .inr (8, fs)), hq_ai ta (G 0) 2000 tx] ++ Z) → va_S A s.heap H locs → W p l e (hq_rm 1 0 0) s m args below meth c H locs 0 0 Q (F0 m 2 ls []) := by
    intro kz
    induction kz using Nat.strongRecOn with
    | ind kz ih =>
      intro a ls H locs hkz ha hF hl hP hD hS
      subst hkz
      refine lv_iload_n hx hb d_M_digits_2 rfl (lv_at hl 1 rfl) ?_
      refine lv_iload_n hx hb d_M_digits_3 rfl (lv_at hl 3 rfl) ?_
      refine lv_iadd hx hb d_M_digits_4 ?_
      refine hq_topi (x' := nI (i + a)) (nI_add i a) ?_
      refine lv_iload_n hx hb d_M_digits_5 rfl (lv_at hl 2 rfl) ?_
      refine lv_icmp_ge (tgt := 29) hx hb d_M_digits_6 rfl (fun c6 => ?_) (fun c6 => ?_)
      · -- 6 taken
        have c6 : j ≤ (i + a) := (nI_leI (a := j) (b := i + a) (by omega) (by omega)).mp c6
        refine lv_iload_n hx hb d_M_digits_29 rfl (lv_at hl 3 rfl) ?_
        exact hret (nI a) () H locs 30 ls d_M_digits_30 (by first | rw [hF, hq_ndg_end (t := tx) (a := i + a) (j := j) (by omega), Nat.add_zero] | rw [hF, hq_ndg_no (t := tx) (a := i + a) (j := j) (by omega) c20, Nat.add_zero]) hP hD hS
      · -- 6 not taken
        have c6 : ¬ j ≤ (i + a) := fun h => c6 ((nI_leI (a := j) (b := i + a) (by omega) (by omega)).mpr h)
        refine lv_aload_n hx hb d_M_digits_9 rfl (lv_at hl 0 rfl) ?_
        refine va_get (D := D) (ci := 8) (v := .ref ta) (C := R_M) (T := F_M) (N := 34) hx hb hts uw_M hown hK hP 0 rfl rfl 5 (by decide) (hts _ fl_M_13) (fun _ h9 => h9) hf5 d_M_digits_10 ?_
        refine lv_iload_n hx hb d_M_digits_13 rfl (lv_at hl 1 rfl) ?_
        refine lv_iload_n hx hb d_M_digits_14 rfl (lv_at hl 3 rfl) ?_
        refine lv_iadd hx hb d_M_digits_15 ?_
        refine hq_topi (x' := nI (i + a)) (nI_add i a) ?_
        refine hq_iald (j := i + a) hx hb hK hP 1 rfl (by omega) (by omega) d_M_digits_16 ?_
        have hPc : va_P D hq_cl ([] ++ ([(h, .inr (8, fs)), hq_ai ta (G 0) 2000 tx] ++ Z)) H := hP
        have hDc : va_D A ([] ++ ([(h, .inr (8, fs)), hq_ai ta (G 0) 2000 tx] ++ Z)) := hD
        refine hq_iF (hq_rS (As := [.int (tx (i + a))]) (rest := []) hx hb hml hown hts (c_M_digit l D G A ([(h, .inr (8, fs)), hq_ai ta (G 0) 2000 tx] ++ Z) (tx (i + a))) yy_M_digit lk_M_85 hA hK hN hS hPc hDc rfl hl.1 rfl (Nat.le_of_ble_eq_true rfl) d_M_digits_17 ⟨by decide, by decide⟩ ⟨by decide, by decide⟩) hS (fun H locs hP hD hS => ?_)
        have hP : va_P D hq_cl ([(h, .inr (8, fs)), hq_ai ta (G 0) 2000 tx] ++ Z) H := hP
        have hD : va_D A ([(h, .inr (8, fs)), hq_ai ta (G 0) 2000 tx] ++ Z) := hD
        refine lv_if_eq (tgt := 29) hx hb d_M_digits_20 rfl (fun c20 => ?_) (fun c20 => ?_)
        · -- 20 taken
          have c20 : ¬ (hq_dig (tx (i + a))) = true := by rw [hq_z0.mp c20]; decide
          refine lv_iload_n hx hb d_M_digits_29 rfl (lv_at hl 3 rfl) ?_
          exact hret (nI a) () H locs 30 ls d_M_digits_30 (by first | rw [hF, hq_ndg_end (t := tx) (a := i + a) (j := j) (by omega), Nat.add_zero] | rw [hF, hq_ndg_no (t := tx) (a := i + a) (j := j) (by omega) c20, Nat.add_zero]) hP hD hS
        · -- 20 not taken
          have c20 : (hq_dig (tx (i + a))) = true := hq_zn.mp c20
          refine lv_iinc (nL := 4) (k := 3) (v := nI (a + 1)) (lv' := [(3, .int (nI (a + 1))), (0, .ref h), (1, .int (nI i)), (2, .int (nI j))]) hx hb d_M_digits_23 hl rfl (nI_add a 1) (by decide) rfl (fun ls hl => ?_)
          refine lv_goto (tgt := 2) hx hb d_M_digits_26 rfl ?_
          exact ih _ (by omega) (a + 1) ls H locs rfl (by first | assumption | omega) (hF.trans (hq_ndg_yes (by omega) c20)) (lv_sub hl [1, 2, 3, 0] rfl) hP hD hS
  exact cut2 _ 0 ls H locs rfl (by first | assumption | omega) (by rw [Nat.zero_add]; rfl) (lv_sub hl [1, 2, 3, 0] rfl) hP hD hS
theorem d_M_read_0 : decode b_M_read 0 = .ok (.iconst 0, 1) := by decide +kernel
theorem d_M_read_1 : decode b_M_read 1 = .ok (.istore_n 3, 1) := by decide +kernel
theorem d_M_read_2 : decode b_M_read 2 = .ok (.iconst 0, 1) := by decide +kernel
theorem d_M_read_3 : decode b_M_read 3 = .ok (.istore 4, 2) := by decide +kernel
theorem d_M_read_5 : decode b_M_read 5 = .ok (.iload 4, 2) := by decide +kernel
theorem d_M_read_7 : decode b_M_read 7 = .ok (.iload_n 2, 1) := by decide +kernel
theorem d_M_read_8 : decode b_M_read 8 = .ok (.if_icmp .ge (27), 3) := by decide +kernel
theorem d_M_read_11 : decode b_M_read 11 = .ok (.iload_n 3, 1) := by decide +kernel
theorem d_M_read_12 : decode b_M_read 12 = .ok (.bipush (10), 2) := by decide +kernel
theorem d_M_read_14 : decode b_M_read 14 = .ok (.imul, 1) := by decide +kernel
theorem d_M_read_15 : decode b_M_read 15 = .ok (.aload_n 0, 1) := by decide +kernel
theorem d_M_read_16 : decode b_M_read 16 = .ok (.getfield 13, 3) := by decide +kernel
theorem d_M_read_19 : decode b_M_read 19 = .ok (.iload_n 1, 1) := by decide +kernel
theorem d_M_read_20 : decode b_M_read 20 = .ok (.iload 4, 2) := by decide +kernel
theorem d_M_read_22 : decode b_M_read 22 = .ok (.iadd, 1) := by decide +kernel
theorem d_M_read_23 : decode b_M_read 23 = .ok (.iaload, 1) := by decide +kernel
theorem d_M_read_24 : decode b_M_read 24 = .ok (.iadd, 1) := by decide +kernel
theorem d_M_read_25 : decode b_M_read 25 = .ok (.bipush (48), 2) := by decide +kernel
theorem d_M_read_27 : decode b_M_read 27 = .ok (.isub, 1) := by decide +kernel
theorem d_M_read_28 : decode b_M_read 28 = .ok (.istore_n 3, 1) := by decide +kernel
theorem d_M_read_29 : decode b_M_read 29 = .ok (.iinc 4 (1), 3) := by decide +kernel
theorem d_M_read_32 : decode b_M_read 32 = .ok (.goto (-27), 3) := by decide +kernel
theorem d_M_read_35 : decode b_M_read 35 = .ok (.iload_n 3, 1) := by decide +kernel
theorem d_M_read_36 : decode b_M_read 36 = .ok (.ireturn, 1) := by decide +kernel
set_option maxHeartbeats 4000000 in
set_option maxRecDepth 100000 in
theorem c_M_read (l : Launch) (D : va_G) (G : Nat → ClassId) (A : Nat → Prop) (Z : va_W) (h : Nat) (fs : List Value) (ta : Nat) (tx : Nat → Int32) (i : Nat) (q : Nat) (hf5 : fs[5]? = some (.ref ta)) (hj : i + q ≤ 2000) : hq_FI l D G A y_M_read b_M_read 5 .int 0 [.ref h, .int (nI i), .int (nI q)] ([(h, .inr (8, fs)), hq_ai ta (G 0) 2000 tx] ++ Z) (hq_dec tx i q 0) ([(h, .inr (8, fs)), hq_ai ta (G 0) 2000 tx] ++ Z) := by
  refine hq_bI (by decide) (Nat.le_of_ble_eq_true rfl) (fun _ _ _ => rfl) ?_
  intro p e s m args below meth c Q hx hb hml hts hown hA hK hN hret ls H locs hl hP hD hS
  have hown : s.vm.findClass "HashedLearnerModel" = some m.cls := hown
  have hl : lv_has ls 5 [(0, .ref h), (1, .int (nI i)), (2, .int (nI q))] := hl
  refine lv_iconst (v := 0) hx hb d_M_read_0 (by decide) ?_
  refine lv_istore_n (nL := 5) (lv' := [(3, .int 0), (0, .ref h), (1, .int (nI i)), (2, .int (nI q))]) hx hb d_M_read_1 rfl hl (by decide) rfl (fun ls hl => ?_)
  refine lv_iconst (v := nI 0) hx hb d_M_read_2 (by decide) ?_
  refine lv_istore (nL := 5) (lv' := [(4, .int (nI 0)), (3, .int 0), (0, .ref h), (1, .int (nI i)), (2, .int (nI q))]) hx hb d_M_read_3 hl (by decide) rfl (fun ls hl => ?_)
  have cut5 : ∀ (kz : Nat) (a : Nat) (x : Int32) (ls : Array Slot) (H : Heap) (locs : List Loc), q - a = kz → (a ≤ q) → (hq_dec tx i q 0 = hq_dec tx (i + a) (q - a) x) → lv_has ls 5 [(0, .ref h), (1, .int (nI i)), (2, .int (nI q)), (3, .int x), (4, .int (nI a))] → va_P D hq_cl ([(h, .inr (8, fs)), hq_ai ta (G 0) 2000 tx] ++ Z) H → va_D A ([(h, .inr (8, fs)), hq_ai ta (G 0) 2000 tx] ++ Z) → va_S A s.heap H locs → W p l e (hq_rm 0 0 0) s m args below meth c H locs 0 0 Q (F0 m 5 ls []) := by
    intro kz
    induction kz using Nat.strongRecOn with
    | ind kz ih =>
      intro a x ls H locs hkz ha hF hl hP hD hS
      subst hkz
      refine lv_iload hx hb d_M_read_5 (lv_at hl 4 rfl) ?_
      refine lv_iload_n hx hb d_M_read_7 rfl (lv_at hl 2 rfl) ?_
      refine lv_icmp_ge (tgt := 35) hx hb d_M_read_8 rfl (fun c8 => ?_) (fun c8 => ?_)
      · -- 8 taken
        have c8 : q ≤ a := (nI_leI (a := q) (b := a) (by omega) (by omega)).mp c8
        refine lv_iload_n hx hb d_M_read_35 rfl (lv_at hl 3 rfl) ?_
        exact hret x () H locs 36 ls d_M_read_36 (by rw [hF, hq_decM_end (t := tx) (i := i) (a := a) (q := q) (by omega)]) hP hD hS
      · -- 8 not taken
        have c8 : ¬ q ≤ a := fun h => c8 ((nI_leI (a := q) (b := a) (by omega) (by omega)).mpr h)
        refine lv_iload_n hx hb d_M_read_11 rfl (lv_at hl 3 rfl) ?_
        refine lv_bipush (v := 10) hx hb d_M_read_12 (by decide) ?_
        refine lv_imul hx hb d_M_read_14 ?_
        refine lv_aload_n hx hb d_M_read_15 rfl (lv_at hl 0 rfl) ?_
        refine va_get (D := D) (ci := 8) (v := .ref ta) (C := R_M) (T := F_M) (N := 34) hx hb hts uw_M hown hK hP 0 rfl rfl 5 (by decide) (hts _ fl_M_13) (fun _ h9 => h9) hf5 d_M_read_16 ?_
        refine lv_iload_n hx hb d_M_read_19 rfl (lv_at hl 1 rfl) ?_
        refine lv_iload hx hb d_M_read_20 (lv_at hl 4 rfl) ?_
        refine lv_iadd hx hb d_M_read_22 ?_
        refine hq_topi (x' := nI (i + a)) (nI_add i a) ?_
        refine hq_iald (j := i + a) hx hb hK hP 1 rfl (by omega) (by omega) d_M_read_23 ?_
        refine lv_iadd hx hb d_M_read_24 ?_
        refine lv_bipush (v := 48) hx hb d_M_read_25 (by decide) ?_
        refine lv_isub hx hb d_M_read_27 ?_
        refine hq_topi (x' := (x * 10) + ((tx (i + a)) - 48)) (by rw [Int32.sub_eq_add_neg, Int32.sub_eq_add_neg, Int32.add_assoc]) ?_
        refine lv_istore_n (nL := 5) (lv' := [(3, .int ((x * 10) + ((tx (i + a)) - 48))), (0, .ref h), (1, .int (nI i)), (2, .int (nI q)), (4, .int (nI a))]) hx hb d_M_read_28 rfl hl (by decide) rfl (fun ls hl => ?_)
        refine lv_iinc (nL := 5) (k := 4) (v := nI (a + 1)) (lv' := [(4, .int (nI (a + 1))), (3, .int ((x * 10) + ((tx (i + a)) - 48))), (0, .ref h), (1, .int (nI i)), (2, .int (nI q))]) hx hb d_M_read_29 hl rfl (nI_add a 1) (by decide) rfl (fun ls hl => ?_)
        refine lv_goto (tgt := 5) hx hb d_M_read_32 rfl ?_
        exact ih _ (by omega) (a + 1) ((x * 10) + ((tx (i + a)) - 48)) ls H locs rfl (by first | assumption | omega) (hF.trans (hq_decM_go (by omega))) (lv_sub hl [2, 3, 4, 1, 0] rfl) hP hD hS
  exact cut5 _ 0 0 ls H locs rfl (by first | assumption | omega) (rfl) (lv_sub hl [2, 3, 4, 1, 0] rfl) hP hD hS
theorem d_M_block_0 : decode b_M_block 0 = .ok (.iconst 0, 1) := by decide +kernel
theorem d_M_block_1 : decode b_M_block 1 = .ok (.istore_n 3, 1) := by decide +kernel
theorem d_M_block_2 : decode b_M_block 2 = .ok (.iload_n 2, 1) := by decide +kernel
theorem d_M_block_3 : decode b_M_block 3 = .ok (.iconst 1, 1) := by decide +kernel
theorem d_M_block_4 : decode b_M_block 4 = .ok (.isub, 1) := by decide +kernel
theorem d_M_block_5 : decode b_M_block 5 = .ok (.istore 4, 2) := by decide +kernel
theorem d_M_block_7 : decode b_M_block 7 = .ok (.iload 4, 2) := by decide +kernel
theorem d_M_block_9 : decode b_M_block 9 = .ok (.ifCond .lt (25), 3) := by decide +kernel
theorem d_M_block_12 : decode b_M_block 12 = .ok (.iload_n 3, 1) := by decide +kernel
theorem d_M_block_13 : decode b_M_block 13 = .ok (.sipush (256), 3) := by decide +kernel
theorem d_M_block_16 : decode b_M_block 16 = .ok (.imul, 1) := by decide +kernel
theorem d_M_block_17 : decode b_M_block 17 = .ok (.aload_n 0, 1) := by decide +kernel
theorem d_M_block_18 : decode b_M_block 18 = .ok (.getfield 13, 3) := by decide +kernel
theorem d_M_block_21 : decode b_M_block 21 = .ok (.iload_n 1, 1) := by decide +kernel
theorem d_M_block_22 : decode b_M_block 22 = .ok (.iload 4, 2) := by decide +kernel
theorem d_M_block_24 : decode b_M_block 24 = .ok (.iadd, 1) := by decide +kernel
theorem d_M_block_25 : decode b_M_block 25 = .ok (.iaload, 1) := by decide +kernel
theorem d_M_block_26 : decode b_M_block 26 = .ok (.iadd, 1) := by decide +kernel
theorem d_M_block_27 : decode b_M_block 27 = .ok (.istore_n 3, 1) := by decide +kernel
theorem d_M_block_28 : decode b_M_block 28 = .ok (.iinc 4 (-1), 3) := by decide +kernel
theorem d_M_block_31 : decode b_M_block 31 = .ok (.goto (-24), 3) := by decide +kernel
theorem d_M_block_34 : decode b_M_block 34 = .ok (.iload_n 3, 1) := by decide +kernel
theorem d_M_block_35 : decode b_M_block 35 = .ok (.ireturn, 1) := by decide +kernel
set_option maxHeartbeats 4000000 in
set_option maxRecDepth 100000 in
theorem c_M_block (l : Launch) (D : va_G) (G : Nat → ClassId) (A : Nat → Prop) (Z : va_W) (h : Nat) (fs : List Value) (ta : Nat) (tx : Nat → Int32) (i : Nat) (q : Nat) (hf5 : fs[5]? = some (.ref ta)) (hj : i + q ≤ 2000) : hq_FI l D G A y_M_block b_M_block 5 .int 0 [.ref h, .int (nI i), .int (nI q)] ([(h, .inr (8, fs)), hq_ai ta (G 0) 2000 tx] ++ Z) (hq_blk tx i q 0) ([(h, .inr (8, fs)), hq_ai ta (G 0) 2000 tx] ++ Z) := by
  refine hq_bI (by decide) (Nat.le_of_ble_eq_true rfl) (fun _ _ _ => rfl) ?_
  intro p e s m args below meth c Q hx hb hml hts hown hA hK hN hret ls H locs hl hP hD hS
  have hown : s.vm.findClass "HashedLearnerModel" = some m.cls := hown
  have hl : lv_has ls 5 [(0, .ref h), (1, .int (nI i)), (2, .int (nI q))] := hl
  refine lv_iconst (v := 0) hx hb d_M_block_0 (by decide) ?_
  refine lv_istore_n (nL := 5) (lv' := [(3, .int 0), (0, .ref h), (1, .int (nI i)), (2, .int (nI q))]) hx hb d_M_block_1 rfl hl (by decide) rfl (fun ls hl => ?_)
  refine lv_iload_n hx hb d_M_block_2 rfl (lv_at hl 3 rfl) ?_
  refine lv_iconst (v := 1) hx hb d_M_block_3 (by decide) ?_
  refine lv_isub hx hb d_M_block_4 ?_
  refine lv_istore (nL := 5) (lv' := [(4, .int ((nI q) - 1)), (3, .int 0), (0, .ref h), (1, .int (nI i)), (2, .int (nI q))]) hx hb d_M_block_5 hl (by decide) rfl (fun ls hl => ?_)
  have cut7 : ∀ (kz : Nat) (a : Nat) (x : Int32) (ls : Array Slot) (H : Heap) (locs : List Loc), a = kz → (a ≤ q) → (hq_blk tx i q 0 = hq_blk tx i a x) → lv_has ls 5 [(0, .ref h), (1, .int (nI i)), (3, .int x), (4, .int (nI a - 1))] → va_P D hq_cl ([(h, .inr (8, fs)), hq_ai ta (G 0) 2000 tx] ++ Z) H → va_D A ([(h, .inr (8, fs)), hq_ai ta (G 0) 2000 tx] ++ Z) → va_S A s.heap H locs → W p l e (hq_rm 0 0 0) s m args below meth c H locs 0 0 Q (F0 m 7 ls []) := by
    intro kz
    induction kz using Nat.strongRecOn with
    | ind kz ih =>
      intro a x ls H locs hkz ha hF hl hP hD hS
      subst hkz
      rcases a with _ | b
      · skip
        refine lv_iload hx hb d_M_block_7 (lv_at hl 3 rfl) ?_
        refine lv_if_lt (tgt := 34) hx hb d_M_block_9 rfl (fun c9 => ?_) (fun c9 => ?_)
        · -- 9 taken
          have c9 : (nI 0 - 1) < 0 := c9
          refine lv_iload_n hx hb d_M_block_34 rfl (lv_at hl 2 rfl) ?_
          exact hret x () H locs 35 ls d_M_block_35 (hF.symm) hP hD hS
        · -- 9 not taken
          have c9 : ¬ (nI 0 - 1) < 0 := c9
          exact absurd (by decide) c9
      · skip
        rw [nI_pred] at hl
        refine lv_iload hx hb d_M_block_7 (lv_at hl 3 rfl) ?_
        refine lv_if_lt (tgt := 34) hx hb d_M_block_9 rfl (fun c9 => ?_) (fun c9 => ?_)
        · -- 9 taken
          have c9 : b < 0 := (nI_ltI (a := b) (b := 0) (by omega) (by omega)).mp c9
          exact absurd c9 (by omega)
        · -- 9 not taken
          have c9 : ¬ b < 0 := fun h => c9 ((nI_ltI (a := b) (b := 0) (by omega) (by omega)).mpr h)
          refine lv_iload_n hx hb d_M_block_12 rfl (lv_at hl 2 rfl) ?_
          refine lv_sipush (v := 256) hx hb d_M_block_13 (by decide) ?_
          refine lv_imul hx hb d_M_block_16 ?_
          refine lv_aload_n hx hb d_M_block_17 rfl (lv_at hl 0 rfl) ?_
          refine va_get (D := D) (ci := 8) (v := .ref ta) (C := R_M) (T := F_M) (N := 34) hx hb hts uw_M hown hK hP 0 rfl rfl 5 (by decide) (hts _ fl_M_13) (fun _ h9 => h9) hf5 d_M_block_18 ?_
          refine lv_iload_n hx hb d_M_block_21 rfl (lv_at hl 1 rfl) ?_
          refine lv_iload hx hb d_M_block_22 (lv_at hl 3 rfl) ?_
          refine lv_iadd hx hb d_M_block_24 ?_
          refine hq_topi (x' := nI (i + b)) (nI_add i b) ?_
          refine hq_iald (j := i + b) hx hb hK hP 1 rfl (by omega) (by omega) d_M_block_25 ?_
          refine lv_iadd hx hb d_M_block_26 ?_
          refine lv_istore_n (nL := 5) (lv' := [(3, .int ((x * 256) + (tx (i + b)))), (0, .ref h), (1, .int (nI i)), (4, .int (nI b))]) hx hb d_M_block_27 rfl hl (by decide) rfl (fun ls hl => ?_)
          refine lv_iinc (nL := 5) (k := 3) (v := nI b - 1) (lv' := [(4, .int (nI b - 1)), (3, .int ((x * 256) + (tx (i + b)))), (0, .ref h), (1, .int (nI i))]) hx hb d_M_block_28 hl rfl (by rw [Int32.sub_eq_add_neg] <;> rfl) (by decide) rfl (fun ls hl => ?_)
          refine lv_goto (tgt := 7) hx hb d_M_block_31 rfl ?_
          exact ih _ (by omega) b ((x * 256) + (tx (i + b))) ls H locs rfl (by first | assumption | omega) (hF) (lv_sub hl [2, 3, 1, 0] rfl) hP hD hS
  exact cut7 _ q 0 ls H locs rfl (by first | assumption | omega) (rfl) (lv_sub hl [2, 3, 1, 0] rfl) hP hD hS
theorem d_M_number_0 : decode b_M_number 0 = .ok (.iload_n 1, 1) := by decide +kernel
theorem d_M_number_1 : decode b_M_number 1 = .ok (.iload_n 2, 1) := by decide +kernel
theorem d_M_number_2 : decode b_M_number 2 = .ok (.if_icmp .ge (18), 3) := by decide +kernel
theorem d_M_number_5 : decode b_M_number 5 = .ok (.aload_n 0, 1) := by decide +kernel
theorem d_M_number_6 : decode b_M_number 6 = .ok (.getfield 13, 3) := by decide +kernel
theorem d_M_number_9 : decode b_M_number 9 = .ok (.iload_n 1, 1) := by decide +kernel
theorem d_M_number_10 : decode b_M_number 10 = .ok (.iaload, 1) := by decide +kernel
theorem d_M_number_11 : decode b_M_number 11 = .ok (.bipush (45), 2) := by decide +kernel
theorem d_M_number_13 : decode b_M_number 13 = .ok (.if_icmp .ne (7), 3) := by decide +kernel
theorem d_M_number_16 : decode b_M_number 16 = .ok (.iconst 1, 1) := by decide +kernel
theorem d_M_number_17 : decode b_M_number 17 = .ok (.goto (4), 3) := by decide +kernel
theorem d_M_number_20 : decode b_M_number 20 = .ok (.iconst 0, 1) := by decide +kernel
theorem d_M_number_21 : decode b_M_number 21 = .ok (.istore_n 3, 1) := by decide +kernel
theorem d_M_number_22 : decode b_M_number 22 = .ok (.iload_n 3, 1) := by decide +kernel
theorem d_M_number_23 : decode b_M_number 23 = .ok (.ifCond .eq (9), 3) := by decide +kernel
theorem d_M_number_26 : decode b_M_number 26 = .ok (.iload_n 1, 1) := by decide +kernel
theorem d_M_number_27 : decode b_M_number 27 = .ok (.iconst 1, 1) := by decide +kernel
theorem d_M_number_28 : decode b_M_number 28 = .ok (.iadd, 1) := by decide +kernel
theorem d_M_number_29 : decode b_M_number 29 = .ok (.goto (4), 3) := by decide +kernel
theorem d_M_number_32 : decode b_M_number 32 = .ok (.iload_n 1, 1) := by decide +kernel
theorem d_M_number_33 : decode b_M_number 33 = .ok (.istore 4, 2) := by decide +kernel
theorem d_M_number_35 : decode b_M_number 35 = .ok (.aload_n 0, 1) := by decide +kernel
theorem d_M_number_36 : decode b_M_number 36 = .ok (.iload 4, 2) := by decide +kernel
theorem d_M_number_38 : decode b_M_number 38 = .ok (.iload_n 2, 1) := by decide +kernel
theorem d_M_number_39 : decode b_M_number 39 = .ok (.invokevirtual 89, 3) := by decide +kernel
theorem d_M_number_42 : decode b_M_number 42 = .ok (.istore 5, 2) := by decide +kernel
theorem d_M_number_44 : decode b_M_number 44 = .ok (.iload 5, 2) := by decide +kernel
theorem d_M_number_46 : decode b_M_number 46 = .ok (.iconst 1, 1) := by decide +kernel
theorem d_M_number_47 : decode b_M_number 47 = .ok (.if_icmp .lt (9), 3) := by decide +kernel
theorem d_M_number_50 : decode b_M_number 50 = .ok (.iload 5, 2) := by decide +kernel
theorem d_M_number_52 : decode b_M_number 52 = .ok (.iconst 3, 1) := by decide +kernel
theorem d_M_number_53 : decode b_M_number 53 = .ok (.if_icmp .le (6), 3) := by decide +kernel
theorem d_M_number_56 : decode b_M_number 56 = .ok (.ldc 93, 2) := by decide +kernel
theorem d_M_number_58 : decode b_M_number 58 = .ok (.ireturn, 1) := by decide +kernel
theorem d_M_number_59 : decode b_M_number 59 = .ok (.bipush (100), 2) := by decide +kernel
theorem d_M_number_61 : decode b_M_number 61 = .ok (.aload_n 0, 1) := by decide +kernel
theorem d_M_number_62 : decode b_M_number 62 = .ok (.iload 4, 2) := by decide +kernel
theorem d_M_number_64 : decode b_M_number 64 = .ok (.iload 5, 2) := by decide +kernel
theorem d_M_number_66 : decode b_M_number 66 = .ok (.invokevirtual 94, 3) := by decide +kernel
theorem d_M_number_69 : decode b_M_number 69 = .ok (.imul, 1) := by decide +kernel
theorem d_M_number_70 : decode b_M_number 70 = .ok (.istore 6, 2) := by decide +kernel
theorem d_M_number_72 : decode b_M_number 72 = .ok (.iload 4, 2) := by decide +kernel
theorem d_M_number_74 : decode b_M_number 74 = .ok (.iload 5, 2) := by decide +kernel
theorem d_M_number_76 : decode b_M_number 76 = .ok (.iadd, 1) := by decide +kernel
theorem d_M_number_77 : decode b_M_number 77 = .ok (.istore 7, 2) := by decide +kernel
theorem d_M_number_79 : decode b_M_number 79 = .ok (.iload 7, 2) := by decide +kernel
theorem d_M_number_81 : decode b_M_number 81 = .ok (.iload_n 2, 1) := by decide +kernel
theorem d_M_number_82 : decode b_M_number 82 = .ok (.if_icmp .ge (87), 3) := by decide +kernel
theorem d_M_number_85 : decode b_M_number 85 = .ok (.aload_n 0, 1) := by decide +kernel
theorem d_M_number_86 : decode b_M_number 86 = .ok (.iload 7, 2) := by decide +kernel
theorem d_M_number_88 : decode b_M_number 88 = .ok (.iconst 1, 1) := by decide +kernel
theorem d_M_number_89 : decode b_M_number 89 = .ok (.iadd, 1) := by decide +kernel
theorem d_M_number_90 : decode b_M_number 90 = .ok (.iload_n 2, 1) := by decide +kernel
theorem d_M_number_91 : decode b_M_number 91 = .ok (.invokevirtual 89, 3) := by decide +kernel
theorem d_M_number_94 : decode b_M_number 94 = .ok (.istore 8, 2) := by decide +kernel
theorem d_M_number_96 : decode b_M_number 96 = .ok (.aload_n 0, 1) := by decide +kernel
theorem d_M_number_97 : decode b_M_number 97 = .ok (.getfield 13, 3) := by decide +kernel
theorem d_M_number_100 : decode b_M_number 100 = .ok (.iload 7, 2) := by decide +kernel
theorem d_M_number_102 : decode b_M_number 102 = .ok (.iaload, 1) := by decide +kernel
theorem d_M_number_103 : decode b_M_number 103 = .ok (.bipush (46), 2) := by decide +kernel
theorem d_M_number_105 : decode b_M_number 105 = .ok (.if_icmp .ne (26), 3) := by decide +kernel
theorem d_M_number_108 : decode b_M_number 108 = .ok (.iload 8, 2) := by decide +kernel
theorem d_M_number_110 : decode b_M_number 110 = .ok (.iconst 1, 1) := by decide +kernel
theorem d_M_number_111 : decode b_M_number 111 = .ok (.if_icmp .lt (20), 3) := by decide +kernel
theorem d_M_number_114 : decode b_M_number 114 = .ok (.iload 8, 2) := by decide +kernel
theorem d_M_number_116 : decode b_M_number 116 = .ok (.iconst 2, 1) := by decide +kernel
theorem d_M_number_117 : decode b_M_number 117 = .ok (.if_icmp .gt (14), 3) := by decide +kernel
theorem d_M_number_120 : decode b_M_number 120 = .ok (.iload 7, 2) := by decide +kernel
theorem d_M_number_122 : decode b_M_number 122 = .ok (.iconst 1, 1) := by decide +kernel
theorem d_M_number_123 : decode b_M_number 123 = .ok (.iadd, 1) := by decide +kernel
theorem d_M_number_124 : decode b_M_number 124 = .ok (.iload 8, 2) := by decide +kernel
theorem d_M_number_126 : decode b_M_number 126 = .ok (.iadd, 1) := by decide +kernel
theorem d_M_number_127 : decode b_M_number 127 = .ok (.iload_n 2, 1) := by decide +kernel
theorem d_M_number_128 : decode b_M_number 128 = .ok (.if_icmp .eq (6), 3) := by decide +kernel
theorem d_M_number_131 : decode b_M_number 131 = .ok (.ldc 93, 2) := by decide +kernel
theorem d_M_number_133 : decode b_M_number 133 = .ok (.ireturn, 1) := by decide +kernel
theorem d_M_number_134 : decode b_M_number 134 = .ok (.iload 6, 2) := by decide +kernel
theorem d_M_number_136 : decode b_M_number 136 = .ok (.iload 8, 2) := by decide +kernel
theorem d_M_number_138 : decode b_M_number 138 = .ok (.iconst 1, 1) := by decide +kernel
theorem d_M_number_139 : decode b_M_number 139 = .ok (.if_icmp .ne (18), 3) := by decide +kernel
theorem d_M_number_142 : decode b_M_number 142 = .ok (.bipush (10), 2) := by decide +kernel
theorem d_M_number_144 : decode b_M_number 144 = .ok (.aload_n 0, 1) := by decide +kernel
theorem d_M_number_145 : decode b_M_number 145 = .ok (.iload 7, 2) := by decide +kernel
theorem d_M_number_147 : decode b_M_number 147 = .ok (.iconst 1, 1) := by decide +kernel
theorem d_M_number_148 : decode b_M_number 148 = .ok (.iadd, 1) := by decide +kernel
theorem d_M_number_149 : decode b_M_number 149 = .ok (.iconst 1, 1) := by decide +kernel
theorem d_M_number_150 : decode b_M_number 150 = .ok (.invokevirtual 94, 3) := by decide +kernel
theorem d_M_number_153 : decode b_M_number 153 = .ok (.imul, 1) := by decide +kernel
theorem d_M_number_154 : decode b_M_number 154 = .ok (.goto (12), 3) := by decide +kernel
theorem d_M_number_157 : decode b_M_number 157 = .ok (.aload_n 0, 1) := by decide +kernel
theorem d_M_number_158 : decode b_M_number 158 = .ok (.iload 7, 2) := by decide +kernel
theorem d_M_number_160 : decode b_M_number 160 = .ok (.iconst 1, 1) := by decide +kernel
theorem d_M_number_161 : decode b_M_number 161 = .ok (.iadd, 1) := by decide +kernel
theorem d_M_number_162 : decode b_M_number 162 = .ok (.iconst 2, 1) := by decide +kernel
theorem d_M_number_163 : decode b_M_number 163 = .ok (.invokevirtual 94, 3) := by decide +kernel
theorem d_M_number_166 : decode b_M_number 166 = .ok (.iadd, 1) := by decide +kernel
theorem d_M_number_167 : decode b_M_number 167 = .ok (.istore 6, 2) := by decide +kernel
theorem d_M_number_169 : decode b_M_number 169 = .ok (.iload_n 3, 1) := by decide +kernel
theorem d_M_number_170 : decode b_M_number 170 = .ok (.ifCond .eq (9), 3) := by decide +kernel
theorem d_M_number_173 : decode b_M_number 173 = .ok (.iload 6, 2) := by decide +kernel
theorem d_M_number_175 : decode b_M_number 175 = .ok (.ineg, 1) := by decide +kernel
theorem d_M_number_176 : decode b_M_number 176 = .ok (.goto (5), 3) := by decide +kernel
theorem d_M_number_179 : decode b_M_number 179 = .ok (.iload 6, 2) := by decide +kernel
theorem d_M_number_181 : decode b_M_number 181 = .ok (.ireturn, 1) := by decide +kernel
set_option maxHeartbeats 4000000 in
set_option maxRecDepth 100000 in
theorem c_M_number (l : Launch) (D : va_G) (G : Nat → ClassId) (A : Nat → Prop) (Z : va_W) (h : Nat) (fs : List Value) (ta : Nat) (tx : Nat → Int32) (i : Nat) (j : Nat) (hf5 : fs[5]? = some (.ref ta)) (hj : j ≤ 2000) (hi : i ≤ j) : hq_FI l D G A y_M_number b_M_number 9 .int 2 [.ref h, .int (nI i), .int (nI j)] ([(h, .inr (8, fs)), hq_ai ta (G 0) 2000 tx] ++ Z) (hq_nuM tx i j) ([(h, .inr (8, fs)), hq_ai ta (G 0) 2000 tx] ++ Z) := by
  refine hq_bI (by decide) (Nat.le_of_ble_eq_true rfl) (fun _ _ _ => rfl) ?_
  intro p e s m args below meth c Q hx hb hml hts hown hA hK hN hret ls H locs hl hP hD hS
  have hown : s.vm.findClass "HashedLearnerModel" = some m.cls := hown
  have hl : lv_has ls 9 [(0, .ref h), (1, .int (nI i)), (2, .int (nI j))] := hl
  have cut35 : ∀ (st : Nat) (ng : Bool) (ls : Array Slot) (H : Heap) (locs : List Loc), (hq_st tx i j = st) → (hq_isN tx i j = ng) → (st ≤ j) → lv_has ls 9 [(0, .ref h), (2, .int (nI j)), (3, .int (hq_z ng)), (4, .int (nI st))] → va_P D hq_cl ([(h, .inr (8, fs)), hq_ai ta (G 0) 2000 tx] ++ Z) H → va_D A ([(h, .inr (8, fs)), hq_ai ta (G 0) 2000 tx] ++ Z) → va_S A s.heap H locs → W p l e (hq_rm 2 0 0) s m args below meth c H locs 0 0 Q (F0 m 35 ls []) := by
    intro st ng ls H locs hs hg hle hl hP hD hS
    refine lv_aload_n hx hb d_M_number_35 rfl (lv_at hl 0 rfl) ?_
    refine lv_iload hx hb d_M_number_36 (lv_at hl 3 rfl) ?_
    refine lv_iload_n hx hb d_M_number_38 rfl (lv_at hl 1 rfl) ?_
    have hPc : va_P D hq_cl ([(h, .inr (8, fs)), hq_ai ta (G 0) 2000 tx] ++ Z) H := hP
    have hDc : va_D A ([(h, .inr (8, fs)), hq_ai ta (G 0) 2000 tx] ++ Z) := hD
    refine hq_iF (hq_rV (As := [.int (nI st), .int (nI j)]) (rest := []) hx hb hml hown hts (c_M_digits l D G A Z h fs ta tx st j (by first | assumption | rfl) (by first | assumption | omega) (by first | assumption | omega)) yy_M_digits lk_M_89 hA hK hN hS hPc hDc 0 8 rfl rfl rfl hl.1 rfl (Nat.le_of_ble_eq_true rfl) d_M_number_39 ⟨by decide, by decide⟩ ⟨by decide, by decide⟩) hS (fun H locs hP hD hS => ?_)
    have hP : va_P D hq_cl ([(h, .inr (8, fs)), hq_ai ta (G 0) 2000 tx] ++ Z) H := hP
    have hD : va_D A ([(h, .inr (8, fs)), hq_ai ta (G 0) 2000 tx] ++ Z) := hD
    have hp := hq_ndg_le tx (j - st) st
    refine lv_istore (nL := 9) (lv' := [(5, .int (nI (hq_ndg tx st (j - st)))), (0, .ref h), (2, .int (nI j)), (3, .int (hq_z ng)), (4, .int (nI st))]) hx hb d_M_number_42 hl (by decide) rfl (fun ls hl => ?_)
    refine lv_iload hx hb d_M_number_44 (lv_at hl 0 rfl) ?_
    refine lv_iconst (v := 1) hx hb d_M_number_46 (by decide) ?_
    refine lv_icmp_lt (tgt := 56) hx hb d_M_number_47 rfl (fun c47 => ?_) (fun c47 => ?_)
    · -- 47 taken
      have c47 : (hq_ndg tx st (j - st)) < 1 := (nI_ltI (a := hq_ndg tx st (j - st)) (b := 1) (by omega) (by omega)).mp c47
      refine lv_ldc (v := 1000000) hx hb hown (hts _ ki_M_93) d_M_number_56 ?_
      exact hret 1000000 () H locs 58 ls d_M_number_58 (by rw [hq_nuM, hs, hg, hq_nuMB, if_pos c47] <;> rfl) hP hD hS
    · -- 47 not taken
      have c47 : ¬ (hq_ndg tx st (j - st)) < 1 := fun h => c47 ((nI_ltI (a := hq_ndg tx st (j - st)) (b := 1) (by omega) (by omega)).mpr h)
      refine lv_iload hx hb d_M_number_50 (lv_at hl 0 rfl) ?_
      refine lv_iconst (v := 3) hx hb d_M_number_52 (by decide) ?_
      refine lv_icmp_le (tgt := 59) hx hb d_M_number_53 rfl (fun c53 => ?_) (fun c53 => ?_)
      · -- 53 taken
        have c53 : (hq_ndg tx st (j - st)) ≤ 3 := (nI_leI (a := hq_ndg tx st (j - st)) (b := 3) (by omega) (by omega)).mp c53
        refine lv_bipush (v := 100) hx hb d_M_number_59 (by decide) ?_
        refine lv_aload_n hx hb d_M_number_61 rfl (lv_at hl 1 rfl) ?_
        refine lv_iload hx hb d_M_number_62 (lv_at hl 4 rfl) ?_
        refine lv_iload hx hb d_M_number_64 (lv_at hl 0 rfl) ?_
        have hPc : va_P D hq_cl ([(h, .inr (8, fs)), hq_ai ta (G 0) 2000 tx] ++ Z) H := hP
        have hDc : va_D A ([(h, .inr (8, fs)), hq_ai ta (G 0) 2000 tx] ++ Z) := hD
        refine hq_iF (hq_rV (As := [.int (nI st), .int (nI (hq_ndg tx st (j - st)))]) (rest := [.int 100]) hx hb hml hown hts (c_M_read l D G A Z h fs ta tx st (hq_ndg tx st (j - st)) (by first | assumption | rfl) (by first | assumption | omega)) yy_M_read lk_M_94 hA hK hN hS hPc hDc 0 8 rfl rfl rfl hl.1 rfl (Nat.le_of_ble_eq_true rfl) d_M_number_66 ⟨by decide, by decide⟩ ⟨by decide, by decide⟩) hS (fun H locs hP hD hS => ?_)
        have hP : va_P D hq_cl ([(h, .inr (8, fs)), hq_ai ta (G 0) 2000 tx] ++ Z) H := hP
        have hD : va_D A ([(h, .inr (8, fs)), hq_ai ta (G 0) 2000 tx] ++ Z) := hD
        refine lv_imul hx hb d_M_number_69 ?_
        refine lv_istore (nL := 9) (lv' := [(6, .int (100 * (hq_dec tx st (hq_ndg tx st (j - st)) 0))), (5, .int (nI (hq_ndg tx st (j - st)))), (0, .ref h), (2, .int (nI j)), (3, .int (hq_z ng)), (4, .int (nI st))]) hx hb d_M_number_70 hl (by decide) rfl (fun ls hl => ?_)
        refine lv_iload hx hb d_M_number_72 (lv_at hl 5 rfl) ?_
        refine lv_iload hx hb d_M_number_74 (lv_at hl 1 rfl) ?_
        refine lv_iadd hx hb d_M_number_76 ?_
        refine hq_topi (x' := nI (st + (hq_ndg tx st (j - st)))) (nI_add st (hq_ndg tx st (j - st))) ?_
        refine lv_istore (nL := 9) (lv' := [(7, .int (nI (st + (hq_ndg tx st (j - st))))), (6, .int (100 * (hq_dec tx st (hq_ndg tx st (j - st)) 0))), (5, .int (nI (hq_ndg tx st (j - st)))), (0, .ref h), (2, .int (nI j)), (3, .int (hq_z ng)), (4, .int (nI st))]) hx hb d_M_number_77 hl (by decide) rfl (fun ls hl => ?_)
        refine lv_iload hx hb d_M_number_79 (lv_at hl 0 rfl) ?_
        refine lv_iload_n hx hb d_M_number_81 rfl (lv_at hl 4 rfl) ?_
        refine lv_icmp_ge (tgt := 169) hx hb d_M_number_82 rfl (fun c82 => ?_) (fun c82 => ?_)
        · -- 82 taken
          have c82 : j ≤ (st + (hq_ndg tx st (j - st))) := (nI_leI (a := j) (b := st + (hq_ndg tx st (j - st))) (by omega) (by omega)).mp c82
          refine lv_iload_n hx hb d_M_number_169 rfl (lv_at hl 5 rfl) ?_
          refine lv_if_eq (tgt := 179) hx hb d_M_number_170 rfl (fun c170 => ?_) (fun c170 => ?_)
          · -- 170 taken
            have c170 : ¬ ng = true := by rw [hq_z0.mp c170]; decide
            refine lv_iload hx hb d_M_number_179 (lv_at hl 1 rfl) ?_
            exact hret (100 * (hq_dec tx st (hq_ndg tx st (j - st)) 0)) () H locs 181 ls d_M_number_181 (by rw [hq_nuM, hs, hg, hq_nuMB, if_neg c47, if_pos c53, if_pos c82, if_neg c170] <;> rfl) hP hD hS
          · -- 170 not taken
            have c170 : ng = true := hq_zn.mp c170
            refine lv_iload hx hb d_M_number_173 (lv_at hl 1 rfl) ?_
            refine lv_ineg hx hb d_M_number_175 ?_
            refine lv_goto (tgt := 181) hx hb d_M_number_176 rfl ?_
            exact hret (-(100 * (hq_dec tx st (hq_ndg tx st (j - st)) 0))) () H locs 181 ls d_M_number_181 (by rw [hq_nuM, hs, hg, hq_nuMB, if_neg c47, if_pos c53, if_pos c82, if_pos c170] <;> rfl) hP hD hS
        · -- 82 not taken
          have c82 : ¬ j ≤ (st + (hq_ndg tx st (j - st))) := fun h => c82 ((nI_leI (a := j) (b := st + (hq_ndg tx st (j - st))) (by omega) (by omega)).mpr h)
          refine lv_aload_n hx hb d_M_number_85 rfl (lv_at hl 3 rfl) ?_
          refine lv_iload hx hb d_M_number_86 (lv_at hl 0 rfl) ?_
          refine lv_iconst (v := 1) hx hb d_M_number_88 (by decide) ?_
          refine lv_iadd hx hb d_M_number_89 ?_
          refine hq_topi (x' := nI ((st + (hq_ndg tx st (j - st))) + 1)) (nI_add (st + (hq_ndg tx st (j - st))) 1) ?_
          refine lv_iload_n hx hb d_M_number_90 rfl (lv_at hl 4 rfl) ?_
          have hPc : va_P D hq_cl ([(h, .inr (8, fs)), hq_ai ta (G 0) 2000 tx] ++ Z) H := hP
          have hDc : va_D A ([(h, .inr (8, fs)), hq_ai ta (G 0) 2000 tx] ++ Z) := hD
          refine hq_iF (hq_rV (As := [.int (nI ((st + (hq_ndg tx st (j - st))) + 1)), .int (nI j)]) (rest := []) hx hb hml hown hts (c_M_digits l D G A Z h fs ta tx ((st + (hq_ndg tx st (j - st))) + 1) j (by first | assumption | rfl) (by first | assumption | omega) (by first | assumption | omega)) yy_M_digits lk_M_89 hA hK hN hS hPc hDc 0 8 rfl rfl rfl hl.1 rfl (Nat.le_of_ble_eq_true rfl) d_M_number_91 ⟨by decide, by decide⟩ ⟨by decide, by decide⟩) hS (fun H locs hP hD hS => ?_)
          have hP : va_P D hq_cl ([(h, .inr (8, fs)), hq_ai ta (G 0) 2000 tx] ++ Z) H := hP
          have hD : va_D A ([(h, .inr (8, fs)), hq_ai ta (G 0) 2000 tx] ++ Z) := hD
          have hp2 := hq_ndg_le tx (j - (st + hq_ndg tx st (j - st) + 1)) (st + hq_ndg tx st (j - st) + 1)
          refine lv_istore (nL := 9) (lv' := [(8, .int (nI (hq_ndg tx ((st + (hq_ndg tx st (j - st))) + 1) (j - ((st + (hq_ndg tx st (j - st))) + 1))))), (7, .int (nI (st + (hq_ndg tx st (j - st))))), (6, .int (100 * (hq_dec tx st (hq_ndg tx st (j - st)) 0))), (5, .int (nI (hq_ndg tx st (j - st)))), (0, .ref h), (2, .int (nI j)), (3, .int (hq_z ng)), (4, .int (nI st))]) hx hb d_M_number_94 hl (by decide) rfl (fun ls hl => ?_)
          refine lv_aload_n hx hb d_M_number_96 rfl (lv_at hl 4 rfl) ?_
          refine va_get (D := D) (ci := 8) (v := .ref ta) (C := R_M) (T := F_M) (N := 34) hx hb hts uw_M hown hK hP 0 rfl rfl 5 (by decide) (hts _ fl_M_13) (fun _ h9 => h9) hf5 d_M_number_97 ?_
          refine lv_iload hx hb d_M_number_100 (lv_at hl 1 rfl) ?_
          refine hq_iald (j := st + (hq_ndg tx st (j - st))) hx hb hK hP 1 rfl (by omega) (by omega) d_M_number_102 ?_
          refine lv_bipush (v := 46) hx hb d_M_number_103 (by decide) ?_
          refine lv_icmp_ne (tgt := 131) hx hb d_M_number_105 rfl (fun c105 => ?_) (fun c105 => ?_)
          · -- 105 taken
            have c105 : ¬ (tx (st + (hq_ndg tx st (j - st)))) = 46 := c105
            refine lv_ldc (v := 1000000) hx hb hown (hts _ ki_M_93) d_M_number_131 ?_
            exact hret 1000000 () H locs 133 ls d_M_number_133 (by rw [hq_nuM, hs, hg, hq_nuMB, if_neg c47, if_pos c53, if_neg c82, if_neg c105] <;> rfl) hP hD hS
          · -- 105 not taken
            have c105 : (tx (st + (hq_ndg tx st (j - st)))) = 46 := c105
            refine lv_iload hx hb d_M_number_108 (lv_at hl 0 rfl) ?_
            refine lv_iconst (v := 1) hx hb d_M_number_110 (by decide) ?_
            refine lv_icmp_lt (tgt := 131) hx hb d_M_number_111 rfl (fun c111 => ?_) (fun c111 => ?_)
            · -- 111 taken
              have c111 : (hq_ndg tx ((st + (hq_ndg tx st (j - st))) + 1) (j - ((st + (hq_ndg tx st (j - st))) + 1))) < 1 := (nI_ltI (a := hq_ndg tx ((st + (hq_ndg tx st (j - st))) + 1) (j - ((st + (hq_ndg tx st (j - st))) + 1))) (b := 1) (by omega) (by omega)).mp c111
              refine lv_ldc (v := 1000000) hx hb hown (hts _ ki_M_93) d_M_number_131 ?_
              exact hret 1000000 () H locs 133 ls d_M_number_133 (by rw [hq_nuM, hs, hg, hq_nuMB, if_neg c47, if_pos c53, if_neg c82, if_pos c105, if_pos c111] <;> rfl) hP hD hS
            · -- 111 not taken
              have c111 : ¬ (hq_ndg tx ((st + (hq_ndg tx st (j - st))) + 1) (j - ((st + (hq_ndg tx st (j - st))) + 1))) < 1 := fun h => c111 ((nI_ltI (a := hq_ndg tx ((st + (hq_ndg tx st (j - st))) + 1) (j - ((st + (hq_ndg tx st (j - st))) + 1))) (b := 1) (by omega) (by omega)).mpr h)
              refine lv_iload hx hb d_M_number_114 (lv_at hl 0 rfl) ?_
              refine lv_iconst (v := 2) hx hb d_M_number_116 (by decide) ?_
              refine lv_icmp_gt (tgt := 131) hx hb d_M_number_117 rfl (fun c117 => ?_) (fun c117 => ?_)
              · -- 117 taken
                have c117 : 2 < (hq_ndg tx ((st + (hq_ndg tx st (j - st))) + 1) (j - ((st + (hq_ndg tx st (j - st))) + 1))) := (nI_ltI (a := 2) (b := hq_ndg tx ((st + (hq_ndg tx st (j - st))) + 1) (j - ((st + (hq_ndg tx st (j - st))) + 1))) (by omega) (by omega)).mp c117
                refine lv_ldc (v := 1000000) hx hb hown (hts _ ki_M_93) d_M_number_131 ?_
                exact hret 1000000 () H locs 133 ls d_M_number_133 (by rw [hq_nuM, hs, hg, hq_nuMB, if_neg c47, if_pos c53, if_neg c82, if_pos c105, if_neg c111, if_pos c117] <;> rfl) hP hD hS
              · -- 117 not taken
                have c117 : ¬ 2 < (hq_ndg tx ((st + (hq_ndg tx st (j - st))) + 1) (j - ((st + (hq_ndg tx st (j - st))) + 1))) := fun h => c117 ((nI_ltI (a := 2) (b := hq_ndg tx ((st + (hq_ndg tx st (j - st))) + 1) (j - ((st + (hq_ndg tx st (j - st))) + 1))) (by omega) (by omega)).mpr h)
                refine lv_iload hx hb d_M_number_120 (lv_at hl 1 rfl) ?_
                refine lv_iconst (v := 1) hx hb d_M_number_122 (by decide) ?_
                refine lv_iadd hx hb d_M_number_123 ?_
                refine hq_topi (x' := nI ((st + (hq_ndg tx st (j - st))) + 1)) (nI_add (st + (hq_ndg tx st (j - st))) 1) ?_
                refine lv_iload hx hb d_M_number_124 (lv_at hl 0 rfl) ?_
                refine lv_iadd hx hb d_M_number_126 ?_
                refine hq_topi (x' := nI (((st + (hq_ndg tx st (j - st))) + 1) + (hq_ndg tx ((st + (hq_ndg tx st (j - st))) + 1) (j - ((st + (hq_ndg tx st (j - st))) + 1))))) (nI_add ((st + (hq_ndg tx st (j - st))) + 1) (hq_ndg tx ((st + (hq_ndg tx st (j - st))) + 1) (j - ((st + (hq_ndg tx st (j - st))) + 1)))) ?_
                refine lv_iload_n hx hb d_M_number_127 rfl (lv_at hl 5 rfl) ?_
                refine lv_icmp_eq (tgt := 134) hx hb d_M_number_128 rfl (fun c128 => ?_) (fun c128 => ?_)
                · -- 128 taken
                  have c128 : (((st + (hq_ndg tx st (j - st))) + 1) + (hq_ndg tx ((st + (hq_ndg tx st (j - st))) + 1) (j - ((st + (hq_ndg tx st (j - st))) + 1)))) = j := (nI_eq (a := ((st + (hq_ndg tx st (j - st))) + 1) + (hq_ndg tx ((st + (hq_ndg tx st (j - st))) + 1) (j - ((st + (hq_ndg tx st (j - st))) + 1)))) (b := j) (by omega) (by omega)).mp c128
                  refine lv_iload hx hb d_M_number_134 (lv_at hl 2 rfl) ?_
                  refine lv_iload hx hb d_M_number_136 (lv_at hl 0 rfl) ?_
                  refine lv_iconst (v := 1) hx hb d_M_number_138 (by decide) ?_
                  refine lv_icmp_ne (tgt := 157) hx hb d_M_number_139 rfl (fun c139 => ?_) (fun c139 => ?_)
                  · -- 139 taken
                    have c139 : ¬ (hq_ndg tx ((st + (hq_ndg tx st (j - st))) + 1) (j - ((st + (hq_ndg tx st (j - st))) + 1))) = 1 := fun h => c139 ((nI_eq (a := hq_ndg tx ((st + (hq_ndg tx st (j - st))) + 1) (j - ((st + (hq_ndg tx st (j - st))) + 1))) (b := 1) (by omega) (by omega)).mpr h)
                    refine lv_aload_n hx hb d_M_number_157 rfl (lv_at hl 4 rfl) ?_
                    refine lv_iload hx hb d_M_number_158 (lv_at hl 1 rfl) ?_
                    refine lv_iconst (v := 1) hx hb d_M_number_160 (by decide) ?_
                    refine lv_iadd hx hb d_M_number_161 ?_
                    refine hq_topi (x' := nI ((st + (hq_ndg tx st (j - st))) + 1)) (nI_add (st + (hq_ndg tx st (j - st))) 1) ?_
                    refine lv_iconst (v := nI 2) hx hb d_M_number_162 (by decide) ?_
                    have hPc : va_P D hq_cl ([(h, .inr (8, fs)), hq_ai ta (G 0) 2000 tx] ++ Z) H := hP
                    have hDc : va_D A ([(h, .inr (8, fs)), hq_ai ta (G 0) 2000 tx] ++ Z) := hD
                    refine hq_iF (hq_rV (As := [.int (nI ((st + (hq_ndg tx st (j - st))) + 1)), .int (nI 2)]) (rest := [.int (100 * (hq_dec tx st (hq_ndg tx st (j - st)) 0))]) hx hb hml hown hts (c_M_read l D G A Z h fs ta tx ((st + (hq_ndg tx st (j - st))) + 1) 2 (by first | assumption | rfl) (by first | assumption | omega)) yy_M_read lk_M_94 hA hK hN hS hPc hDc 0 8 rfl rfl rfl hl.1 rfl (Nat.le_of_ble_eq_true rfl) d_M_number_163 ⟨by decide, by decide⟩ ⟨by decide, by decide⟩) hS (fun H locs hP hD hS => ?_)
                    have hP : va_P D hq_cl ([(h, .inr (8, fs)), hq_ai ta (G 0) 2000 tx] ++ Z) H := hP
                    have hD : va_D A ([(h, .inr (8, fs)), hq_ai ta (G 0) 2000 tx] ++ Z) := hD
                    refine lv_iadd hx hb d_M_number_166 ?_
                    refine lv_istore (nL := 9) (lv' := [(6, .int ((100 * (hq_dec tx st (hq_ndg tx st (j - st)) 0)) + (hq_dec tx ((st + (hq_ndg tx st (j - st))) + 1) 2 0))), (8, .int (nI (hq_ndg tx ((st + (hq_ndg tx st (j - st))) + 1) (j - ((st + (hq_ndg tx st (j - st))) + 1))))), (7, .int (nI (st + (hq_ndg tx st (j - st))))), (5, .int (nI (hq_ndg tx st (j - st)))), (0, .ref h), (2, .int (nI j)), (3, .int (hq_z ng)), (4, .int (nI st))]) hx hb d_M_number_167 hl (by decide) rfl (fun ls hl => ?_)
                    refine lv_iload_n hx hb d_M_number_169 rfl (lv_at hl 6 rfl) ?_
                    refine lv_if_eq (tgt := 179) hx hb d_M_number_170 rfl (fun c170 => ?_) (fun c170 => ?_)
                    · -- 170 taken
                      have c170 : ¬ ng = true := by rw [hq_z0.mp c170]; decide
                      refine lv_iload hx hb d_M_number_179 (lv_at hl 0 rfl) ?_
                      exact hret ((100 * (hq_dec tx st (hq_ndg tx st (j - st)) 0)) + (hq_dec tx ((st + (hq_ndg tx st (j - st))) + 1) 2 0)) () H locs 181 ls d_M_number_181 (by rw [hq_nuM, hs, hg, hq_nuMB, if_neg c47, if_pos c53, if_neg c82, if_pos c105, if_neg c111, if_neg c117, if_pos c128, if_neg c139, if_neg c170] <;> rfl) hP hD hS
                    · -- 170 not taken
                      have c170 : ng = true := hq_zn.mp c170
                      refine lv_iload hx hb d_M_number_173 (lv_at hl 0 rfl) ?_
                      refine lv_ineg hx hb d_M_number_175 ?_
                      refine lv_goto (tgt := 181) hx hb d_M_number_176 rfl ?_
                      exact hret (-((100 * (hq_dec tx st (hq_ndg tx st (j - st)) 0)) + (hq_dec tx ((st + (hq_ndg tx st (j - st))) + 1) 2 0))) () H locs 181 ls d_M_number_181 (by rw [hq_nuM, hs, hg, hq_nuMB, if_neg c47, if_pos c53, if_neg c82, if_pos c105, if_neg c111, if_neg c117, if_pos c128, if_neg c139, if_pos c170] <;> rfl) hP hD hS
                  · -- 139 not taken
                    have c139 : (hq_ndg tx ((st + (hq_ndg tx st (j - st))) + 1) (j - ((st + (hq_ndg tx st (j - st))) + 1))) = 1 := (nI_eq (a := hq_ndg tx ((st + (hq_ndg tx st (j - st))) + 1) (j - ((st + (hq_ndg tx st (j - st))) + 1))) (b := 1) (by omega) (by omega)).mp c139
                    refine lv_bipush (v := 10) hx hb d_M_number_142 (by decide) ?_
                    refine lv_aload_n hx hb d_M_number_144 rfl (lv_at hl 4 rfl) ?_
                    refine lv_iload hx hb d_M_number_145 (lv_at hl 1 rfl) ?_
                    refine lv_iconst (v := 1) hx hb d_M_number_147 (by decide) ?_
                    refine lv_iadd hx hb d_M_number_148 ?_
                    refine hq_topi (x' := nI ((st + (hq_ndg tx st (j - st))) + 1)) (nI_add (st + (hq_ndg tx st (j - st))) 1) ?_
                    refine lv_iconst (v := nI 1) hx hb d_M_number_149 (by decide) ?_
                    have hPc : va_P D hq_cl ([(h, .inr (8, fs)), hq_ai ta (G 0) 2000 tx] ++ Z) H := hP
                    have hDc : va_D A ([(h, .inr (8, fs)), hq_ai ta (G 0) 2000 tx] ++ Z) := hD
                    refine hq_iF (hq_rV (As := [.int (nI ((st + (hq_ndg tx st (j - st))) + 1)), .int (nI 1)]) (rest := [.int 10, .int (100 * (hq_dec tx st (hq_ndg tx st (j - st)) 0))]) hx hb hml hown hts (c_M_read l D G A Z h fs ta tx ((st + (hq_ndg tx st (j - st))) + 1) 1 (by first | assumption | rfl) (by first | assumption | omega)) yy_M_read lk_M_94 hA hK hN hS hPc hDc 0 8 rfl rfl rfl hl.1 rfl (Nat.le_of_ble_eq_true rfl) d_M_number_150 ⟨by decide, by decide⟩ ⟨by decide, by decide⟩) hS (fun H locs hP hD hS => ?_)
                    have hP : va_P D hq_cl ([(h, .inr (8, fs)), hq_ai ta (G 0) 2000 tx] ++ Z) H := hP
                    have hD : va_D A ([(h, .inr (8, fs)), hq_ai ta (G 0) 2000 tx] ++ Z) := hD
                    refine lv_imul hx hb d_M_number_153 ?_
                    refine lv_goto (tgt := 166) hx hb d_M_number_154 rfl ?_
                    refine lv_iadd hx hb d_M_number_166 ?_
                    refine lv_istore (nL := 9) (lv' := [(6, .int ((100 * (hq_dec tx st (hq_ndg tx st (j - st)) 0)) + (10 * (hq_dec tx ((st + (hq_ndg tx st (j - st))) + 1) 1 0)))), (8, .int (nI (hq_ndg tx ((st + (hq_ndg tx st (j - st))) + 1) (j - ((st + (hq_ndg tx st (j - st))) + 1))))), (7, .int (nI (st + (hq_ndg tx st (j - st))))), (5, .int (nI (hq_ndg tx st (j - st)))), (0, .ref h), (2, .int (nI j)), (3, .int (hq_z ng)), (4, .int (nI st))]) hx hb d_M_number_167 hl (by decide) rfl (fun ls hl => ?_)
                    refine lv_iload_n hx hb d_M_number_169 rfl (lv_at hl 6 rfl) ?_
                    refine lv_if_eq (tgt := 179) hx hb d_M_number_170 rfl (fun c170 => ?_) (fun c170 => ?_)
                    · -- 170 taken
                      have c170 : ¬ ng = true := by rw [hq_z0.mp c170]; decide
                      refine lv_iload hx hb d_M_number_179 (lv_at hl 0 rfl) ?_
                      exact hret ((100 * (hq_dec tx st (hq_ndg tx st (j - st)) 0)) + (10 * (hq_dec tx ((st + (hq_ndg tx st (j - st))) + 1) 1 0))) () H locs 181 ls d_M_number_181 (by rw [hq_nuM, hs, hg, hq_nuMB, if_neg c47, if_pos c53, if_neg c82, if_pos c105, if_neg c111, if_neg c117, if_pos c128, if_pos c139, if_neg c170] <;> rfl) hP hD hS
                    · -- 170 not taken
                      have c170 : ng = true := hq_zn.mp c170
                      refine lv_iload hx hb d_M_number_173 (lv_at hl 0 rfl) ?_
                      refine lv_ineg hx hb d_M_number_175 ?_
                      refine lv_goto (tgt := 181) hx hb d_M_number_176 rfl ?_
                      exact hret (-((100 * (hq_dec tx st (hq_ndg tx st (j - st)) 0)) + (10 * (hq_dec tx ((st + (hq_ndg tx st (j - st))) + 1) 1 0)))) () H locs 181 ls d_M_number_181 (by rw [hq_nuM, hs, hg, hq_nuMB, if_neg c47, if_pos c53, if_neg c82, if_pos c105, if_neg c111, if_neg c117, if_pos c128, if_pos c139, if_pos c170] <;> rfl) hP hD hS
                · -- 128 not taken
                  have c128 : ¬ (((st + (hq_ndg tx st (j - st))) + 1) + (hq_ndg tx ((st + (hq_ndg tx st (j - st))) + 1) (j - ((st + (hq_ndg tx st (j - st))) + 1)))) = j := fun h => c128 ((nI_eq (a := ((st + (hq_ndg tx st (j - st))) + 1) + (hq_ndg tx ((st + (hq_ndg tx st (j - st))) + 1) (j - ((st + (hq_ndg tx st (j - st))) + 1)))) (b := j) (by omega) (by omega)).mpr h)
                  refine lv_ldc (v := 1000000) hx hb hown (hts _ ki_M_93) d_M_number_131 ?_
                  exact hret 1000000 () H locs 133 ls d_M_number_133 (by rw [hq_nuM, hs, hg, hq_nuMB, if_neg c47, if_pos c53, if_neg c82, if_pos c105, if_neg c111, if_neg c117, if_neg c128] <;> rfl) hP hD hS
      · -- 53 not taken
        have c53 : ¬ (hq_ndg tx st (j - st)) ≤ 3 := fun h => c53 ((nI_leI (a := hq_ndg tx st (j - st)) (b := 3) (by omega) (by omega)).mpr h)
        refine lv_ldc (v := 1000000) hx hb hown (hts _ ki_M_93) d_M_number_56 ?_
        exact hret 1000000 () H locs 58 ls d_M_number_58 (by rw [hq_nuM, hs, hg, hq_nuMB, if_neg c47, if_neg c53] <;> rfl) hP hD hS
  refine lv_iload_n hx hb d_M_number_0 rfl (lv_at hl 1 rfl) ?_
  refine lv_iload_n hx hb d_M_number_1 rfl (lv_at hl 2 rfl) ?_
  refine lv_icmp_ge (tgt := 20) hx hb d_M_number_2 rfl (fun c2 => ?_) (fun c2 => ?_)
  · -- 2 taken
    have c2 : j ≤ i := (nI_leI (a := j) (b := i) (by omega) (by omega)).mp c2
    refine lv_iconst (v := 0) hx hb d_M_number_20 (by decide) ?_
    refine lv_istore_n (nL := 9) (lv' := [(3, .int 0), (0, .ref h), (1, .int (nI i)), (2, .int (nI j))]) hx hb d_M_number_21 rfl hl (by decide) rfl (fun ls hl => ?_)
    refine lv_iload_n hx hb d_M_number_22 rfl (lv_at hl 0 rfl) ?_
    refine lv_if_eq (tgt := 32) hx hb d_M_number_23 rfl (fun c23 => ?_) (fun c23 => ?_)
    · skip
      refine lv_iload_n hx hb d_M_number_32 rfl (lv_at hl 2 rfl) ?_
      refine lv_istore (nL := 9) (lv' := [(4, .int (nI i)), (3, .int 0), (0, .ref h), (1, .int (nI i)), (2, .int (nI j))]) hx hb d_M_number_33 hl (by decide) rfl (fun ls hl => ?_)
      exact cut35 i false ls H locs (by rw [hq_st, if_neg (Nat.not_lt.mpr c2)]) (by rw [hq_isN, if_neg (Nat.not_lt.mpr c2)]) (by first | assumption | omega) (lv_sub hl [2, 4, 1, 0] rfl) hP hD hS
    · exact absurd (by decide) c23
  · -- 2 not taken
    have c2 : ¬ j ≤ i := fun h => c2 ((nI_leI (a := j) (b := i) (by omega) (by omega)).mpr h)
    refine lv_aload_n hx hb d_M_number_5 rfl (lv_at hl 0 rfl) ?_
    refine va_get (D := D) (ci := 8) (v := .ref ta) (C := R_M) (T := F_M) (N := 34) hx hb hts uw_M hown hK hP 0 rfl rfl 5 (by decide) (hts _ fl_M_13) (fun _ h9 => h9) hf5 d_M_number_6 ?_
    refine lv_iload_n hx hb d_M_number_9 rfl (lv_at hl 1 rfl) ?_
    refine hq_iald (j := i) hx hb hK hP 1 rfl (by omega) (by omega) d_M_number_10 ?_
    refine lv_bipush (v := 45) hx hb d_M_number_11 (by decide) ?_
    refine lv_icmp_ne (tgt := 20) hx hb d_M_number_13 rfl (fun c13 => ?_) (fun c13 => ?_)
    · -- 13 taken
      have c13 : ¬ (tx i) = 45 := c13
      refine lv_iconst (v := 0) hx hb d_M_number_20 (by decide) ?_
      refine lv_istore_n (nL := 9) (lv' := [(3, .int 0), (0, .ref h), (1, .int (nI i)), (2, .int (nI j))]) hx hb d_M_number_21 rfl hl (by decide) rfl (fun ls hl => ?_)
      refine lv_iload_n hx hb d_M_number_22 rfl (lv_at hl 0 rfl) ?_
      refine lv_if_eq (tgt := 32) hx hb d_M_number_23 rfl (fun c23 => ?_) (fun c23 => ?_)
      · skip
        refine lv_iload_n hx hb d_M_number_32 rfl (lv_at hl 2 rfl) ?_
        refine lv_istore (nL := 9) (lv' := [(4, .int (nI i)), (3, .int 0), (0, .ref h), (1, .int (nI i)), (2, .int (nI j))]) hx hb d_M_number_33 hl (by decide) rfl (fun ls hl => ?_)
        exact cut35 i false ls H locs (by rw [hq_st, if_pos (Nat.not_le.mp c2), if_neg c13]) (by rw [hq_isN, if_pos (Nat.not_le.mp c2), if_neg c13]) (by first | assumption | omega) (lv_sub hl [2, 4, 1, 0] rfl) hP hD hS
      · exact absurd (by decide) c23
    · -- 13 not taken
      have c13 : (tx i) = 45 := c13
      refine lv_iconst (v := 1) hx hb d_M_number_16 (by decide) ?_
      refine lv_goto (tgt := 21) hx hb d_M_number_17 rfl ?_
      refine lv_istore_n (nL := 9) (lv' := [(3, .int 1), (0, .ref h), (1, .int (nI i)), (2, .int (nI j))]) hx hb d_M_number_21 rfl hl (by decide) rfl (fun ls hl => ?_)
      refine lv_iload_n hx hb d_M_number_22 rfl (lv_at hl 0 rfl) ?_
      refine lv_if_eq (tgt := 32) hx hb d_M_number_23 rfl (fun c23 => ?_) (fun c23 => ?_)
      · exact absurd c23 (by decide)
      · skip
        refine lv_iload_n hx hb d_M_number_26 rfl (lv_at hl 2 rfl) ?_
        refine lv_iconst (v := 1) hx hb d_M_number_27 (by decide) ?_
        refine lv_iadd hx hb d_M_number_28 ?_
        refine hq_topi (x' := nI (i + 1)) (nI_add i 1) ?_
        refine lv_goto (tgt := 33) hx hb d_M_number_29 rfl ?_
        refine lv_istore (nL := 9) (lv' := [(4, .int (nI (i + 1))), (3, .int 1), (0, .ref h), (1, .int (nI i)), (2, .int (nI j))]) hx hb d_M_number_33 hl (by decide) rfl (fun ls hl => ?_)
        exact cut35 (i + 1) true ls H locs (by rw [hq_st, if_pos (Nat.not_le.mp c2), if_pos c13]) (by rw [hq_isN, if_pos (Nat.not_le.mp c2), if_pos c13]) (by first | assumption | omega) (lv_sub hl [2, 4, 1, 0] rfl) hP hD hS
theorem d_M_nameEnd_0 : decode b_M_nameEnd 0 = .ok (.aload_n 0, 1) := by decide +kernel
theorem d_M_nameEnd_1 : decode b_M_nameEnd 1 = .ok (.iload_n 1, 1) := by decide +kernel
theorem d_M_nameEnd_2 : decode b_M_nameEnd 2 = .ok (.iload_n 2, 1) := by decide +kernel
theorem d_M_nameEnd_3 : decode b_M_nameEnd 3 = .ok (.bipush (58), 2) := by decide +kernel
theorem d_M_nameEnd_5 : decode b_M_nameEnd 5 = .ok (.invokevirtual 112, 3) := by decide +kernel
theorem d_M_nameEnd_8 : decode b_M_nameEnd 8 = .ok (.istore_n 3, 1) := by decide +kernel
theorem d_M_nameEnd_9 : decode b_M_nameEnd 9 = .ok (.iload_n 3, 1) := by decide +kernel
theorem d_M_nameEnd_10 : decode b_M_nameEnd 10 = .ok (.iload_n 1, 1) := by decide +kernel
theorem d_M_nameEnd_11 : decode b_M_nameEnd 11 = .ok (.if_icmp .eq (21), 3) := by decide +kernel
theorem d_M_nameEnd_14 : decode b_M_nameEnd 14 = .ok (.iload_n 3, 1) := by decide +kernel
theorem d_M_nameEnd_15 : decode b_M_nameEnd 15 = .ok (.iload_n 2, 1) := by decide +kernel
theorem d_M_nameEnd_16 : decode b_M_nameEnd 16 = .ok (.if_icmp .ge (20), 3) := by decide +kernel
theorem d_M_nameEnd_19 : decode b_M_nameEnd 19 = .ok (.aload_n 0, 1) := by decide +kernel
theorem d_M_nameEnd_20 : decode b_M_nameEnd 20 = .ok (.iload_n 3, 1) := by decide +kernel
theorem d_M_nameEnd_21 : decode b_M_nameEnd 21 = .ok (.iconst 1, 1) := by decide +kernel
theorem d_M_nameEnd_22 : decode b_M_nameEnd 22 = .ok (.iadd, 1) := by decide +kernel
theorem d_M_nameEnd_23 : decode b_M_nameEnd 23 = .ok (.iload_n 2, 1) := by decide +kernel
theorem d_M_nameEnd_24 : decode b_M_nameEnd 24 = .ok (.invokevirtual 109, 3) := by decide +kernel
theorem d_M_nameEnd_27 : decode b_M_nameEnd 27 = .ok (.ldc 93, 2) := by decide +kernel
theorem d_M_nameEnd_29 : decode b_M_nameEnd 29 = .ok (.if_icmp .ne (7), 3) := by decide +kernel
theorem d_M_nameEnd_32 : decode b_M_nameEnd 32 = .ok (.iconst 1, 1) := by decide +kernel
theorem d_M_nameEnd_33 : decode b_M_nameEnd 33 = .ok (.goto (4), 3) := by decide +kernel
theorem d_M_nameEnd_36 : decode b_M_nameEnd 36 = .ok (.iconst 0, 1) := by decide +kernel
theorem d_M_nameEnd_37 : decode b_M_nameEnd 37 = .ok (.istore 4, 2) := by decide +kernel
theorem d_M_nameEnd_39 : decode b_M_nameEnd 39 = .ok (.iload 4, 2) := by decide +kernel
theorem d_M_nameEnd_41 : decode b_M_nameEnd 41 = .ok (.ifCond .eq (7), 3) := by decide +kernel
theorem d_M_nameEnd_44 : decode b_M_nameEnd 44 = .ok (.iconst (-1), 1) := by decide +kernel
theorem d_M_nameEnd_45 : decode b_M_nameEnd 45 = .ok (.goto (4), 3) := by decide +kernel
theorem d_M_nameEnd_48 : decode b_M_nameEnd 48 = .ok (.iload_n 3, 1) := by decide +kernel
theorem d_M_nameEnd_49 : decode b_M_nameEnd 49 = .ok (.ireturn, 1) := by decide +kernel
def f_M_nameEnd (tx : Nat → Int32) (i : Nat) (j : Nat) : Int32 := if (hq_fnd tx 58 i (j - i)) = i then (-1) else if j ≤ (hq_fnd tx 58 i (j - i)) then nI (hq_fnd tx 58 i (j - i)) else if (hq_nuM tx ((hq_fnd tx 58 i (j - i)) + 1) j) = 1000000 then (-1) else nI (hq_fnd tx 58 i (j - i))
set_option maxHeartbeats 4000000 in
set_option maxRecDepth 100000 in
theorem c_M_nameEnd (l : Launch) (D : va_G) (G : Nat → ClassId) (A : Nat → Prop) (Z : va_W) (h : Nat) (fs : List Value) (ta : Nat) (tx : Nat → Int32) (i : Nat) (j : Nat) (hf5 : fs[5]? = some (.ref ta)) (hj : j ≤ 2000) (hi : i ≤ j) : hq_FI l D G A y_M_nameEnd b_M_nameEnd 5 .int 3 [.ref h, .int (nI i), .int (nI j)] ([(h, .inr (8, fs)), hq_ai ta (G 0) 2000 tx] ++ Z) (f_M_nameEnd tx i j) ([(h, .inr (8, fs)), hq_ai ta (G 0) 2000 tx] ++ Z) := by
  refine hq_bI (by decide) (Nat.le_of_ble_eq_true rfl) (fun _ _ _ => rfl) ?_
  intro p e s m args below meth c Q hx hb hml hts hown hA hK hN hret ls H locs hl hP hD hS
  have hown : s.vm.findClass "HashedLearnerModel" = some m.cls := hown
  have hl : lv_has ls 5 [(0, .ref h), (1, .int (nI i)), (2, .int (nI j))] := hl
  refine lv_aload_n hx hb d_M_nameEnd_0 rfl (lv_at hl 0 rfl) ?_
  refine lv_iload_n hx hb d_M_nameEnd_1 rfl (lv_at hl 1 rfl) ?_
  refine lv_iload_n hx hb d_M_nameEnd_2 rfl (lv_at hl 2 rfl) ?_
  refine lv_bipush (v := 58) hx hb d_M_nameEnd_3 (by decide) ?_
  have hPc : va_P D hq_cl ([(h, .inr (8, fs)), hq_ai ta (G 0) 2000 tx] ++ Z) H := hP
  have hDc : va_D A ([(h, .inr (8, fs)), hq_ai ta (G 0) 2000 tx] ++ Z) := hD
  refine hq_iF (hq_rV (As := [.int (nI i), .int (nI j), .int 58]) (rest := []) hx hb hml hown hts (c_M_find l D G A Z h fs ta tx i j 58 (by first | assumption | rfl) (by first | assumption | omega) (by first | assumption | omega)) yy_M_find lk_M_112 hA hK hN hS hPc hDc 0 8 rfl rfl rfl hl.1 rfl (Nat.le_of_ble_eq_true rfl) d_M_nameEnd_5 ⟨by decide, by decide⟩ ⟨by decide, by decide⟩) hS (fun H locs hP hD hS => ?_)
  have hP : va_P D hq_cl ([(h, .inr (8, fs)), hq_ai ta (G 0) 2000 tx] ++ Z) H := hP
  have hD : va_D A ([(h, .inr (8, fs)), hq_ai ta (G 0) 2000 tx] ++ Z) := hD
  have hp := hq_fnd_le tx 58 (j - i) i
  refine lv_istore_n (nL := 5) (lv' := [(3, .int (nI (hq_fnd tx 58 i (j - i)))), (0, .ref h), (1, .int (nI i)), (2, .int (nI j))]) hx hb d_M_nameEnd_8 rfl hl (by decide) rfl (fun ls hl => ?_)
  refine lv_iload_n hx hb d_M_nameEnd_9 rfl (lv_at hl 0 rfl) ?_
  refine lv_iload_n hx hb d_M_nameEnd_10 rfl (lv_at hl 2 rfl) ?_
  refine lv_icmp_eq (tgt := 32) hx hb d_M_nameEnd_11 rfl (fun c11 => ?_) (fun c11 => ?_)
  · -- 11 taken
    have c11 : (hq_fnd tx 58 i (j - i)) = i := (nI_eq (a := hq_fnd tx 58 i (j - i)) (b := i) (by omega) (by omega)).mp c11
    refine lv_iconst (v := 1) hx hb d_M_nameEnd_32 (by decide) ?_
    refine lv_goto (tgt := 37) hx hb d_M_nameEnd_33 rfl ?_
    refine lv_istore (nL := 5) (lv' := [(4, .int 1), (3, .int (nI (hq_fnd tx 58 i (j - i)))), (0, .ref h), (1, .int (nI i)), (2, .int (nI j))]) hx hb d_M_nameEnd_37 hl (by decide) rfl (fun ls hl => ?_)
    refine lv_iload hx hb d_M_nameEnd_39 (lv_at hl 0 rfl) ?_
    refine lv_if_eq (tgt := 48) hx hb d_M_nameEnd_41 rfl (fun c41 => ?_) (fun c41 => ?_)
    · exact absurd c41 (by decide)
    · skip
      refine lv_iconst (v := (-1)) hx hb d_M_nameEnd_44 (by decide) ?_
      refine lv_goto (tgt := 49) hx hb d_M_nameEnd_45 rfl ?_
      exact hret (-1) () H locs 49 ls d_M_nameEnd_49 (by rw [f_M_nameEnd, if_pos c11] <;> rfl) hP hD hS
  · -- 11 not taken
    have c11 : ¬ (hq_fnd tx 58 i (j - i)) = i := fun h => c11 ((nI_eq (a := hq_fnd tx 58 i (j - i)) (b := i) (by omega) (by omega)).mpr h)
    refine lv_iload_n hx hb d_M_nameEnd_14 rfl (lv_at hl 0 rfl) ?_
    refine lv_iload_n hx hb d_M_nameEnd_15 rfl (lv_at hl 3 rfl) ?_
    refine lv_icmp_ge (tgt := 36) hx hb d_M_nameEnd_16 rfl (fun c16 => ?_) (fun c16 => ?_)
    · -- 16 taken
      have c16 : j ≤ (hq_fnd tx 58 i (j - i)) := (nI_leI (a := j) (b := hq_fnd tx 58 i (j - i)) (by omega) (by omega)).mp c16
      refine lv_iconst (v := 0) hx hb d_M_nameEnd_36 (by decide) ?_
      refine lv_istore (nL := 5) (lv' := [(4, .int 0), (3, .int (nI (hq_fnd tx 58 i (j - i)))), (0, .ref h), (1, .int (nI i)), (2, .int (nI j))]) hx hb d_M_nameEnd_37 hl (by decide) rfl (fun ls hl => ?_)
      refine lv_iload hx hb d_M_nameEnd_39 (lv_at hl 0 rfl) ?_
      refine lv_if_eq (tgt := 48) hx hb d_M_nameEnd_41 rfl (fun c41 => ?_) (fun c41 => ?_)
      · skip
        refine lv_iload_n hx hb d_M_nameEnd_48 rfl (lv_at hl 1 rfl) ?_
        exact hret (nI (hq_fnd tx 58 i (j - i))) () H locs 49 ls d_M_nameEnd_49 (by rw [f_M_nameEnd, if_neg c11, if_pos c16] <;> rfl) hP hD hS
      · exact absurd (by decide) c41
    · -- 16 not taken
      have c16 : ¬ j ≤ (hq_fnd tx 58 i (j - i)) := fun h => c16 ((nI_leI (a := j) (b := hq_fnd tx 58 i (j - i)) (by omega) (by omega)).mpr h)
      refine lv_aload_n hx hb d_M_nameEnd_19 rfl (lv_at hl 1 rfl) ?_
      refine lv_iload_n hx hb d_M_nameEnd_20 rfl (lv_at hl 0 rfl) ?_
      refine lv_iconst (v := 1) hx hb d_M_nameEnd_21 (by decide) ?_
      refine lv_iadd hx hb d_M_nameEnd_22 ?_
      refine hq_topi (x' := nI ((hq_fnd tx 58 i (j - i)) + 1)) (nI_add (hq_fnd tx 58 i (j - i)) 1) ?_
      refine lv_iload_n hx hb d_M_nameEnd_23 rfl (lv_at hl 3 rfl) ?_
      have hPc : va_P D hq_cl ([(h, .inr (8, fs)), hq_ai ta (G 0) 2000 tx] ++ Z) H := hP
      have hDc : va_D A ([(h, .inr (8, fs)), hq_ai ta (G 0) 2000 tx] ++ Z) := hD
      refine hq_iF (hq_rV (As := [.int (nI ((hq_fnd tx 58 i (j - i)) + 1)), .int (nI j)]) (rest := []) hx hb hml hown hts (c_M_number l D G A Z h fs ta tx ((hq_fnd tx 58 i (j - i)) + 1) j (by first | assumption | rfl) (by first | assumption | omega) (by first | assumption | omega)) yy_M_number lk_M_109 hA hK hN hS hPc hDc 0 8 rfl rfl rfl hl.1 rfl (Nat.le_of_ble_eq_true rfl) d_M_nameEnd_24 ⟨by decide, by decide⟩ ⟨by decide, by decide⟩) hS (fun H locs hP hD hS => ?_)
      have hP : va_P D hq_cl ([(h, .inr (8, fs)), hq_ai ta (G 0) 2000 tx] ++ Z) H := hP
      have hD : va_D A ([(h, .inr (8, fs)), hq_ai ta (G 0) 2000 tx] ++ Z) := hD
      refine lv_ldc (v := 1000000) hx hb hown (hts _ ki_M_93) d_M_nameEnd_27 ?_
      refine lv_icmp_ne (tgt := 36) hx hb d_M_nameEnd_29 rfl (fun c29 => ?_) (fun c29 => ?_)
      · -- 29 taken
        have c29 : ¬ (hq_nuM tx ((hq_fnd tx 58 i (j - i)) + 1) j) = 1000000 := c29
        refine lv_iconst (v := 0) hx hb d_M_nameEnd_36 (by decide) ?_
        refine lv_istore (nL := 5) (lv' := [(4, .int 0), (3, .int (nI (hq_fnd tx 58 i (j - i)))), (0, .ref h), (1, .int (nI i)), (2, .int (nI j))]) hx hb d_M_nameEnd_37 hl (by decide) rfl (fun ls hl => ?_)
        refine lv_iload hx hb d_M_nameEnd_39 (lv_at hl 0 rfl) ?_
        refine lv_if_eq (tgt := 48) hx hb d_M_nameEnd_41 rfl (fun c41 => ?_) (fun c41 => ?_)
        · skip
          refine lv_iload_n hx hb d_M_nameEnd_48 rfl (lv_at hl 1 rfl) ?_
          exact hret (nI (hq_fnd tx 58 i (j - i))) () H locs 49 ls d_M_nameEnd_49 (by rw [f_M_nameEnd, if_neg c11, if_neg c16, if_neg c29] <;> rfl) hP hD hS
        · exact absurd (by decide) c41
      · -- 29 not taken
        have c29 : (hq_nuM tx ((hq_fnd tx 58 i (j - i)) + 1) j) = 1000000 := c29
        refine lv_iconst (v := 1) hx hb d_M_nameEnd_32 (by decide) ?_
        refine lv_goto (tgt := 37) hx hb d_M_nameEnd_33 rfl ?_
        refine lv_istore (nL := 5) (lv' := [(4, .int 1), (3, .int (nI (hq_fnd tx 58 i (j - i)))), (0, .ref h), (1, .int (nI i)), (2, .int (nI j))]) hx hb d_M_nameEnd_37 hl (by decide) rfl (fun ls hl => ?_)
        refine lv_iload hx hb d_M_nameEnd_39 (lv_at hl 0 rfl) ?_
        refine lv_if_eq (tgt := 48) hx hb d_M_nameEnd_41 rfl (fun c41 => ?_) (fun c41 => ?_)
        · exact absurd c41 (by decide)
        · skip
          refine lv_iconst (v := (-1)) hx hb d_M_nameEnd_44 (by decide) ?_
          refine lv_goto (tgt := 49) hx hb d_M_nameEnd_45 rfl ?_
          exact hret (-1) () H locs 49 ls d_M_nameEnd_49 (by rw [f_M_nameEnd, if_neg c11, if_neg c16, if_pos c29] <;> rfl) hP hD hS
theorem d_M_amount_0 : decode b_M_amount 0 = .ok (.aload_n 0, 1) := by decide +kernel
theorem d_M_amount_1 : decode b_M_amount 1 = .ok (.iload_n 1, 1) := by decide +kernel
theorem d_M_amount_2 : decode b_M_amount 2 = .ok (.iload_n 2, 1) := by decide +kernel
theorem d_M_amount_3 : decode b_M_amount 3 = .ok (.bipush (58), 2) := by decide +kernel
theorem d_M_amount_5 : decode b_M_amount 5 = .ok (.invokevirtual 112, 3) := by decide +kernel
theorem d_M_amount_8 : decode b_M_amount 8 = .ok (.istore_n 3, 1) := by decide +kernel
theorem d_M_amount_9 : decode b_M_amount 9 = .ok (.iload_n 3, 1) := by decide +kernel
theorem d_M_amount_10 : decode b_M_amount 10 = .ok (.iload_n 2, 1) := by decide +kernel
theorem d_M_amount_11 : decode b_M_amount 11 = .ok (.if_icmp .ge (14), 3) := by decide +kernel
theorem d_M_amount_14 : decode b_M_amount 14 = .ok (.aload_n 0, 1) := by decide +kernel
theorem d_M_amount_15 : decode b_M_amount 15 = .ok (.iload_n 3, 1) := by decide +kernel
theorem d_M_amount_16 : decode b_M_amount 16 = .ok (.iconst 1, 1) := by decide +kernel
theorem d_M_amount_17 : decode b_M_amount 17 = .ok (.iadd, 1) := by decide +kernel
theorem d_M_amount_18 : decode b_M_amount 18 = .ok (.iload_n 2, 1) := by decide +kernel
theorem d_M_amount_19 : decode b_M_amount 19 = .ok (.invokevirtual 109, 3) := by decide +kernel
theorem d_M_amount_22 : decode b_M_amount 22 = .ok (.goto (5), 3) := by decide +kernel
theorem d_M_amount_25 : decode b_M_amount 25 = .ok (.bipush (100), 2) := by decide +kernel
theorem d_M_amount_27 : decode b_M_amount 27 = .ok (.ireturn, 1) := by decide +kernel
def f_M_amount (tx : Nat → Int32) (i : Nat) (j : Nat) : Int32 := if j ≤ (hq_fnd tx 58 i (j - i)) then 100 else hq_nuM tx ((hq_fnd tx 58 i (j - i)) + 1) j
set_option maxHeartbeats 4000000 in
set_option maxRecDepth 100000 in
theorem c_M_amount (l : Launch) (D : va_G) (G : Nat → ClassId) (A : Nat → Prop) (Z : va_W) (h : Nat) (fs : List Value) (ta : Nat) (tx : Nat → Int32) (i : Nat) (j : Nat) (hf5 : fs[5]? = some (.ref ta)) (hj : j ≤ 2000) (hi : i ≤ j) : hq_FI l D G A y_M_amount b_M_amount 4 .int 3 [.ref h, .int (nI i), .int (nI j)] ([(h, .inr (8, fs)), hq_ai ta (G 0) 2000 tx] ++ Z) (f_M_amount tx i j) ([(h, .inr (8, fs)), hq_ai ta (G 0) 2000 tx] ++ Z) := by
  refine hq_bI (by decide) (Nat.le_of_ble_eq_true rfl) (fun _ _ _ => rfl) ?_
  intro p e s m args below meth c Q hx hb hml hts hown hA hK hN hret ls H locs hl hP hD hS
  have hown : s.vm.findClass "HashedLearnerModel" = some m.cls := hown
  have hl : lv_has ls 4 [(0, .ref h), (1, .int (nI i)), (2, .int (nI j))] := hl
  refine lv_aload_n hx hb d_M_amount_0 rfl (lv_at hl 0 rfl) ?_
  refine lv_iload_n hx hb d_M_amount_1 rfl (lv_at hl 1 rfl) ?_
  refine lv_iload_n hx hb d_M_amount_2 rfl (lv_at hl 2 rfl) ?_
  refine lv_bipush (v := 58) hx hb d_M_amount_3 (by decide) ?_
  have hPc : va_P D hq_cl ([(h, .inr (8, fs)), hq_ai ta (G 0) 2000 tx] ++ Z) H := hP
  have hDc : va_D A ([(h, .inr (8, fs)), hq_ai ta (G 0) 2000 tx] ++ Z) := hD
  refine hq_iF (hq_rV (As := [.int (nI i), .int (nI j), .int 58]) (rest := []) hx hb hml hown hts (c_M_find l D G A Z h fs ta tx i j 58 (by first | assumption | rfl) (by first | assumption | omega) (by first | assumption | omega)) yy_M_find lk_M_112 hA hK hN hS hPc hDc 0 8 rfl rfl rfl hl.1 rfl (Nat.le_of_ble_eq_true rfl) d_M_amount_5 ⟨by decide, by decide⟩ ⟨by decide, by decide⟩) hS (fun H locs hP hD hS => ?_)
  have hP : va_P D hq_cl ([(h, .inr (8, fs)), hq_ai ta (G 0) 2000 tx] ++ Z) H := hP
  have hD : va_D A ([(h, .inr (8, fs)), hq_ai ta (G 0) 2000 tx] ++ Z) := hD
  have hp := hq_fnd_le tx 58 (j - i) i
  refine lv_istore_n (nL := 4) (lv' := [(3, .int (nI (hq_fnd tx 58 i (j - i)))), (0, .ref h), (1, .int (nI i)), (2, .int (nI j))]) hx hb d_M_amount_8 rfl hl (by decide) rfl (fun ls hl => ?_)
  refine lv_iload_n hx hb d_M_amount_9 rfl (lv_at hl 0 rfl) ?_
  refine lv_iload_n hx hb d_M_amount_10 rfl (lv_at hl 3 rfl) ?_
  refine lv_icmp_ge (tgt := 25) hx hb d_M_amount_11 rfl (fun c11 => ?_) (fun c11 => ?_)
  · -- 11 taken
    have c11 : j ≤ (hq_fnd tx 58 i (j - i)) := (nI_leI (a := j) (b := hq_fnd tx 58 i (j - i)) (by omega) (by omega)).mp c11
    refine lv_bipush (v := 100) hx hb d_M_amount_25 (by decide) ?_
    exact hret 100 () H locs 27 ls d_M_amount_27 (by rw [f_M_amount, if_pos c11] <;> rfl) hP hD hS
  · -- 11 not taken
    have c11 : ¬ j ≤ (hq_fnd tx 58 i (j - i)) := fun h => c11 ((nI_leI (a := j) (b := hq_fnd tx 58 i (j - i)) (by omega) (by omega)).mpr h)
    refine lv_aload_n hx hb d_M_amount_14 rfl (lv_at hl 1 rfl) ?_
    refine lv_iload_n hx hb d_M_amount_15 rfl (lv_at hl 0 rfl) ?_
    refine lv_iconst (v := 1) hx hb d_M_amount_16 (by decide) ?_
    refine lv_iadd hx hb d_M_amount_17 ?_
    refine hq_topi (x' := nI ((hq_fnd tx 58 i (j - i)) + 1)) (nI_add (hq_fnd tx 58 i (j - i)) 1) ?_
    refine lv_iload_n hx hb d_M_amount_18 rfl (lv_at hl 3 rfl) ?_
    have hPc : va_P D hq_cl ([(h, .inr (8, fs)), hq_ai ta (G 0) 2000 tx] ++ Z) H := hP
    have hDc : va_D A ([(h, .inr (8, fs)), hq_ai ta (G 0) 2000 tx] ++ Z) := hD
    refine hq_iF (hq_rV (As := [.int (nI ((hq_fnd tx 58 i (j - i)) + 1)), .int (nI j)]) (rest := []) hx hb hml hown hts (c_M_number l D G A Z h fs ta tx ((hq_fnd tx 58 i (j - i)) + 1) j (by first | assumption | rfl) (by first | assumption | omega) (by first | assumption | omega)) yy_M_number lk_M_109 hA hK hN hS hPc hDc 0 8 rfl rfl rfl hl.1 rfl (Nat.le_of_ble_eq_true rfl) d_M_amount_19 ⟨by decide, by decide⟩ ⟨by decide, by decide⟩) hS (fun H locs hP hD hS => ?_)
    have hP : va_P D hq_cl ([(h, .inr (8, fs)), hq_ai ta (G 0) 2000 tx] ++ Z) H := hP
    have hD : va_D A ([(h, .inr (8, fs)), hq_ai ta (G 0) 2000 tx] ++ Z) := hD
    refine lv_goto (tgt := 27) hx hb d_M_amount_22 rfl ?_
    exact hret (hq_nuM tx ((hq_fnd tx 58 i (j - i)) + 1) j) () H locs 27 ls d_M_amount_27 (by rw [f_M_amount, if_neg c11] <;> rfl) hP hD hS
