theorem d_Loss_gradientOf_0 : decode b_Loss_gradientOf 0 = .ok (.aload_n 0, 1) := by decide +kernel
theorem d_Loss_gradientOf_1 : decode b_Loss_gradientOf 1 = .ok (.getfield 9, 3) := by decide +kernel
theorem d_Loss_gradientOf_4 : decode b_Loss_gradientOf 4 = .ok (.iconst 1, 1) := by decide +kernel
theorem d_Loss_gradientOf_5 : decode b_Loss_gradientOf 5 = .ok (.if_icmp .ne (25), 3) := by decide +kernel
theorem d_Loss_gradientOf_8 : decode b_Loss_gradientOf 8 = .ok (.iload_n 2, 1) := by decide +kernel
theorem d_Loss_gradientOf_9 : decode b_Loss_gradientOf 9 = .ok (.invokestatic 15, 3) := by decide +kernel
theorem d_Loss_gradientOf_12 : decode b_Loss_gradientOf 12 = .ok (.istore_n 3, 1) := by decide +kernel
theorem d_Loss_gradientOf_13 : decode b_Loss_gradientOf 13 = .ok (.iload_n 3, 1) := by decide +kernel
theorem d_Loss_gradientOf_14 : decode b_Loss_gradientOf 14 = .ok (.iload_n 1, 1) := by decide +kernel
theorem d_Loss_gradientOf_15 : decode b_Loss_gradientOf 15 = .ok (.imul, 1) := by decide +kernel
theorem d_Loss_gradientOf_16 : decode b_Loss_gradientOf 16 = .ok (.bipush (100), 2) := by decide +kernel
theorem d_Loss_gradientOf_18 : decode b_Loss_gradientOf 18 = .ok (.if_icmp .lt (7), 3) := by decide +kernel
theorem d_Loss_gradientOf_21 : decode b_Loss_gradientOf 21 = .ok (.iconst 0, 1) := by decide +kernel
theorem d_Loss_gradientOf_22 : decode b_Loss_gradientOf 22 = .ok (.goto (7), 3) := by decide +kernel
theorem d_Loss_gradientOf_25 : decode b_Loss_gradientOf 25 = .ok (.bipush (-100), 2) := by decide +kernel
theorem d_Loss_gradientOf_27 : decode b_Loss_gradientOf 27 = .ok (.iload_n 3, 1) := by decide +kernel
theorem d_Loss_gradientOf_28 : decode b_Loss_gradientOf 28 = .ok (.imul, 1) := by decide +kernel
theorem d_Loss_gradientOf_29 : decode b_Loss_gradientOf 29 = .ok (.ireturn, 1) := by decide +kernel
theorem d_Loss_gradientOf_30 : decode b_Loss_gradientOf 30 = .ok (.iload_n 1, 1) := by decide +kernel
theorem d_Loss_gradientOf_31 : decode b_Loss_gradientOf 31 = .ok (.iload_n 2, 1) := by decide +kernel
theorem d_Loss_gradientOf_32 : decode b_Loss_gradientOf 32 = .ok (.isub, 1) := by decide +kernel
theorem d_Loss_gradientOf_33 : decode b_Loss_gradientOf 33 = .ok (.istore_n 3, 1) := by decide +kernel
theorem d_Loss_gradientOf_34 : decode b_Loss_gradientOf 34 = .ok (.aload_n 0, 1) := by decide +kernel
theorem d_Loss_gradientOf_35 : decode b_Loss_gradientOf 35 = .ok (.getfield 9, 3) := by decide +kernel
theorem d_Loss_gradientOf_38 : decode b_Loss_gradientOf 38 = .ok (.iconst 2, 1) := by decide +kernel
theorem d_Loss_gradientOf_39 : decode b_Loss_gradientOf 39 = .ok (.if_icmp .ne (23), 3) := by decide +kernel
theorem d_Loss_gradientOf_42 : decode b_Loss_gradientOf 42 = .ok (.iload_n 3, 1) := by decide +kernel
theorem d_Loss_gradientOf_43 : decode b_Loss_gradientOf 43 = .ok (.ifCond .le (8), 3) := by decide +kernel
theorem d_Loss_gradientOf_46 : decode b_Loss_gradientOf 46 = .ok (.bipush (75), 2) := by decide +kernel
theorem d_Loss_gradientOf_48 : decode b_Loss_gradientOf 48 = .ok (.goto (13), 3) := by decide +kernel
theorem d_Loss_gradientOf_51 : decode b_Loss_gradientOf 51 = .ok (.iload_n 3, 1) := by decide +kernel
theorem d_Loss_gradientOf_52 : decode b_Loss_gradientOf 52 = .ok (.ifCond .ge (8), 3) := by decide +kernel
theorem d_Loss_gradientOf_55 : decode b_Loss_gradientOf 55 = .ok (.bipush (-25), 2) := by decide +kernel
theorem d_Loss_gradientOf_57 : decode b_Loss_gradientOf 57 = .ok (.goto (4), 3) := by decide +kernel
theorem d_Loss_gradientOf_60 : decode b_Loss_gradientOf 60 = .ok (.iconst 0, 1) := by decide +kernel
theorem d_Loss_gradientOf_61 : decode b_Loss_gradientOf 61 = .ok (.ireturn, 1) := by decide +kernel
theorem d_Loss_gradientOf_62 : decode b_Loss_gradientOf 62 = .ok (.iload_n 3, 1) := by decide +kernel
theorem d_Loss_gradientOf_63 : decode b_Loss_gradientOf 63 = .ok (.i2l, 1) := by decide +kernel
theorem d_Loss_gradientOf_64 : decode b_Loss_gradientOf 64 = .ok (.ldc2_w 19, 3) := by decide +kernel
theorem d_Loss_gradientOf_67 : decode b_Loss_gradientOf 67 = .ok (.invokestatic 21, 3) := by decide +kernel
theorem d_Loss_gradientOf_70 : decode b_Loss_gradientOf 70 = .ok (.l2i, 1) := by decide +kernel
theorem d_Loss_gradientOf_71 : decode b_Loss_gradientOf 71 = .ok (.ireturn, 1) := by decide +kernel
def f_Loss_gradientOf (kd : Int32) (pr : Int32) (lb : Int32) : Int32 := if kd = 1 then if ((f_Loss_sideOf lb) * pr) < 100 then (-100) * (f_Loss_sideOf lb) else 0 else if kd = 2 then if (pr - lb) ≤ 0 then if 0 ≤ (pr - lb) then 0 else (-25) else 75 else Int64.toInt32 (f_H_clip (Int32.toInt64 (pr - lb)) 100000)
set_option maxHeartbeats 4000000 in
set_option maxRecDepth 100000 in
theorem c_Loss_gradientOf (l : Launch) (D : va_G) (G : Nat → ClassId) (A : Nat → Prop) (Z : va_W) (h : Nat) (kd : Int32) (pr : Int32) (lb : Int32) : hq_FI l D G A y_Loss_gradientOf b_Loss_gradientOf 4 .int 2 [.ref h, .int pr, .int lb] ([hq_o3 h kd] ++ Z) (f_Loss_gradientOf kd pr lb) ([hq_o3 h kd] ++ Z) := by
  refine hq_bI (by decide) (Nat.le_of_ble_eq_true rfl) (fun _ _ _ => rfl) ?_
  intro p e s m args below meth c Q hx hb hml hts hown hA hK hN hret ls H locs hl hP hD hS
  have hown : s.vm.findClass "HashedLearner$Loss" = some m.cls := hown
  have hl : lv_has ls 4 [(0, .ref h), (1, .int pr), (2, .int lb)] := hl
  refine lv_aload_n hx hb d_Loss_gradientOf_0 rfl (lv_at hl 0 rfl) ?_
  refine va_get (D := D) (ci := 3) (v := .int kd) (C := R_Loss) (T := F_Loss) (N := 1) hx hb hts uw_Loss hown hK hP 0 rfl rfl 0 (by decide) (hts _ fl_Loss_9) (fun _ h9 => h9) rfl d_Loss_gradientOf_1 ?_
  refine lv_iconst (v := 1) hx hb d_Loss_gradientOf_4 (by decide) ?_
  refine lv_icmp_ne (tgt := 30) hx hb d_Loss_gradientOf_5 rfl (fun c5 => ?_) (fun c5 => ?_)
  · -- 5 taken
    have c5 : ¬ kd = 1 := c5
    refine lv_iload_n hx hb d_Loss_gradientOf_30 rfl (lv_at hl 1 rfl) ?_
    refine lv_iload_n hx hb d_Loss_gradientOf_31 rfl (lv_at hl 2 rfl) ?_
    refine lv_isub hx hb d_Loss_gradientOf_32 ?_
    refine lv_istore_n (nL := 4) (lv' := [(3, .int (pr - lb)), (0, .ref h), (1, .int pr), (2, .int lb)]) hx hb d_Loss_gradientOf_33 rfl hl (by decide) rfl (fun ls hl => ?_)
    refine lv_aload_n hx hb d_Loss_gradientOf_34 rfl (lv_at hl 1 rfl) ?_
    refine va_get (D := D) (ci := 3) (v := .int kd) (C := R_Loss) (T := F_Loss) (N := 1) hx hb hts uw_Loss hown hK hP 0 rfl rfl 0 (by decide) (hts _ fl_Loss_9) (fun _ h9 => h9) rfl d_Loss_gradientOf_35 ?_
    refine lv_iconst (v := 2) hx hb d_Loss_gradientOf_38 (by decide) ?_
    refine lv_icmp_ne (tgt := 62) hx hb d_Loss_gradientOf_39 rfl (fun c39 => ?_) (fun c39 => ?_)
    · -- 39 taken
      have c39 : ¬ kd = 2 := c39
      refine lv_iload_n hx hb d_Loss_gradientOf_62 rfl (lv_at hl 0 rfl) ?_
      refine lv_i2l (v := Int32.toInt64 (pr - lb)) hx hb d_Loss_gradientOf_63 rfl ?_
      refine lv_ldc2 (v := 100000) hx hb hown (hts _ kl_Loss_19) d_Loss_gradientOf_64 ?_
      have hPc : va_P D hq_cl ([] ++ ([hq_o3 h kd] ++ Z)) H := hP
      have hDc : va_D A ([] ++ ([hq_o3 h kd] ++ Z)) := hD
      refine hq_lF (hq_rSN (As := [.long (Int32.toInt64 (pr - lb)), .long 100000]) (rest := []) hx hb hml hown hts (c_H_clip l D G A ([hq_o3 h kd] ++ Z) (Int32.toInt64 (pr - lb)) 100000) yy_H_clip lk_Loss_21 hA hK hN hS hPc hDc rfl hl.1 rfl (Nat.le_of_ble_eq_true rfl) d_Loss_gradientOf_67 ⟨by decide, by decide⟩ ⟨by decide, by decide⟩) hS (fun H locs hP hD hS => ?_)
      have hP : va_P D hq_cl ([hq_o3 h kd] ++ Z) H := hP
      have hD : va_D A ([hq_o3 h kd] ++ Z) := hD
      refine lv_l2i (v := Int64.toInt32 (f_H_clip (Int32.toInt64 (pr - lb)) 100000)) hx hb d_Loss_gradientOf_70 rfl ?_
      exact hret (Int64.toInt32 (f_H_clip (Int32.toInt64 (pr - lb)) 100000)) () H locs 71 ls d_Loss_gradientOf_71 (by rw [f_Loss_gradientOf, if_neg c5, if_neg c39] <;> rfl) hP hD hS
    · -- 39 not taken
      have c39 : kd = 2 := c39
      refine lv_iload_n hx hb d_Loss_gradientOf_42 rfl (lv_at hl 0 rfl) ?_
      refine lv_if_le (tgt := 51) hx hb d_Loss_gradientOf_43 rfl (fun c43 => ?_) (fun c43 => ?_)
      · -- 43 taken
        have c43 : (pr - lb) ≤ 0 := c43
        refine lv_iload_n hx hb d_Loss_gradientOf_51 rfl (lv_at hl 0 rfl) ?_
        refine lv_if_ge (tgt := 60) hx hb d_Loss_gradientOf_52 rfl (fun c52 => ?_) (fun c52 => ?_)
        · -- 52 taken
          have c52 : 0 ≤ (pr - lb) := c52
          refine lv_iconst (v := 0) hx hb d_Loss_gradientOf_60 (by decide) ?_
          exact hret 0 () H locs 61 ls d_Loss_gradientOf_61 (by rw [f_Loss_gradientOf, if_neg c5, if_pos c39, if_pos c43, if_pos c52] <;> rfl) hP hD hS
        · -- 52 not taken
          have c52 : ¬ 0 ≤ (pr - lb) := c52
          refine lv_bipush (v := (-25)) hx hb d_Loss_gradientOf_55 (by decide) ?_
          refine lv_goto (tgt := 61) hx hb d_Loss_gradientOf_57 rfl ?_
          exact hret (-25) () H locs 61 ls d_Loss_gradientOf_61 (by rw [f_Loss_gradientOf, if_neg c5, if_pos c39, if_pos c43, if_neg c52] <;> rfl) hP hD hS
      · -- 43 not taken
        have c43 : ¬ (pr - lb) ≤ 0 := c43
        refine lv_bipush (v := 75) hx hb d_Loss_gradientOf_46 (by decide) ?_
        refine lv_goto (tgt := 61) hx hb d_Loss_gradientOf_48 rfl ?_
        exact hret 75 () H locs 61 ls d_Loss_gradientOf_61 (by rw [f_Loss_gradientOf, if_neg c5, if_pos c39, if_neg c43] <;> rfl) hP hD hS
  · -- 5 not taken
    have c5 : kd = 1 := c5
    refine lv_iload_n hx hb d_Loss_gradientOf_8 rfl (lv_at hl 2 rfl) ?_
    have hPc : va_P D hq_cl ([] ++ ([hq_o3 h kd] ++ Z)) H := hP
    have hDc : va_D A ([] ++ ([hq_o3 h kd] ++ Z)) := hD
    refine hq_iF (hq_rS (As := [.int lb]) (rest := []) hx hb hml hown hts (c_Loss_sideOf l D G A ([hq_o3 h kd] ++ Z) lb) yy_Loss_sideOf lk_Loss_15 hA hK hN hS hPc hDc rfl hl.1 rfl (Nat.le_of_ble_eq_true rfl) d_Loss_gradientOf_9 ⟨by decide, by decide⟩ ⟨by decide, by decide⟩) hS (fun H locs hP hD hS => ?_)
    have hP : va_P D hq_cl ([hq_o3 h kd] ++ Z) H := hP
    have hD : va_D A ([hq_o3 h kd] ++ Z) := hD
    refine lv_istore_n (nL := 4) (lv' := [(3, .int (f_Loss_sideOf lb)), (0, .ref h), (1, .int pr), (2, .int lb)]) hx hb d_Loss_gradientOf_12 rfl hl (by decide) rfl (fun ls hl => ?_)
    refine lv_iload_n hx hb d_Loss_gradientOf_13 rfl (lv_at hl 0 rfl) ?_
    refine lv_iload_n hx hb d_Loss_gradientOf_14 rfl (lv_at hl 2 rfl) ?_
    refine lv_imul hx hb d_Loss_gradientOf_15 ?_
    refine lv_bipush (v := 100) hx hb d_Loss_gradientOf_16 (by decide) ?_
    refine lv_icmp_lt (tgt := 25) hx hb d_Loss_gradientOf_18 rfl (fun c18 => ?_) (fun c18 => ?_)
    · -- 18 taken
      have c18 : ((f_Loss_sideOf lb) * pr) < 100 := c18
      refine lv_bipush (v := (-100)) hx hb d_Loss_gradientOf_25 (by decide) ?_
      refine lv_iload_n hx hb d_Loss_gradientOf_27 rfl (lv_at hl 0 rfl) ?_
      refine lv_imul hx hb d_Loss_gradientOf_28 ?_
      exact hret ((-100) * (f_Loss_sideOf lb)) () H locs 29 ls d_Loss_gradientOf_29 (by rw [f_Loss_gradientOf, if_pos c5, if_pos c18] <;> rfl) hP hD hS
    · -- 18 not taken
      have c18 : ¬ ((f_Loss_sideOf lb) * pr) < 100 := c18
      refine lv_iconst (v := 0) hx hb d_Loss_gradientOf_21 (by decide) ?_
      refine lv_goto (tgt := 29) hx hb d_Loss_gradientOf_22 rfl ?_
      exact hret 0 () H locs 29 ls d_Loss_gradientOf_29 (by rw [f_Loss_gradientOf, if_pos c5, if_neg c18] <;> rfl) hP hD hS
theorem d_Loss_costOf_0 : decode b_Loss_costOf 0 = .ok (.aload_n 0, 1) := by decide +kernel
theorem d_Loss_costOf_1 : decode b_Loss_costOf 1 = .ok (.getfield 9, 3) := by decide +kernel
theorem d_Loss_costOf_4 : decode b_Loss_costOf 4 = .ok (.iconst 1, 1) := by decide +kernel
theorem d_Loss_costOf_5 : decode b_Loss_costOf 5 = .ok (.if_icmp .ne (18), 3) := by decide +kernel
theorem d_Loss_costOf_8 : decode b_Loss_costOf 8 = .ok (.iconst 0, 1) := by decide +kernel
theorem d_Loss_costOf_9 : decode b_Loss_costOf 9 = .ok (.bipush (100), 2) := by decide +kernel
theorem d_Loss_costOf_11 : decode b_Loss_costOf 11 = .ok (.iload_n 2, 1) := by decide +kernel
theorem d_Loss_costOf_12 : decode b_Loss_costOf 12 = .ok (.invokestatic 15, 3) := by decide +kernel
theorem d_Loss_costOf_15 : decode b_Loss_costOf 15 = .ok (.iload_n 1, 1) := by decide +kernel
theorem d_Loss_costOf_16 : decode b_Loss_costOf 16 = .ok (.imul, 1) := by decide +kernel
theorem d_Loss_costOf_17 : decode b_Loss_costOf 17 = .ok (.isub, 1) := by decide +kernel
theorem d_Loss_costOf_18 : decode b_Loss_costOf 18 = .ok (.invokestatic 25, 3) := by decide +kernel
theorem d_Loss_costOf_21 : decode b_Loss_costOf 21 = .ok (.i2l, 1) := by decide +kernel
theorem d_Loss_costOf_22 : decode b_Loss_costOf 22 = .ok (.lreturn, 1) := by decide +kernel
theorem d_Loss_costOf_23 : decode b_Loss_costOf 23 = .ok (.iload_n 1, 1) := by decide +kernel
theorem d_Loss_costOf_24 : decode b_Loss_costOf 24 = .ok (.i2l, 1) := by decide +kernel
theorem d_Loss_costOf_25 : decode b_Loss_costOf 25 = .ok (.iload_n 2, 1) := by decide +kernel
theorem d_Loss_costOf_26 : decode b_Loss_costOf 26 = .ok (.i2l, 1) := by decide +kernel
theorem d_Loss_costOf_27 : decode b_Loss_costOf 27 = .ok (.lsub, 1) := by decide +kernel
theorem d_Loss_costOf_28 : decode b_Loss_costOf 28 = .ok (.lstore_n 3, 1) := by decide +kernel
theorem d_Loss_costOf_29 : decode b_Loss_costOf 29 = .ok (.aload_n 0, 1) := by decide +kernel
theorem d_Loss_costOf_30 : decode b_Loss_costOf 30 = .ok (.getfield 9, 3) := by decide +kernel
theorem d_Loss_costOf_33 : decode b_Loss_costOf 33 = .ok (.iconst 2, 1) := by decide +kernel
theorem d_Loss_costOf_34 : decode b_Loss_costOf 34 = .ok (.if_icmp .ne (32), 3) := by decide +kernel
theorem d_Loss_costOf_37 : decode b_Loss_costOf 37 = .ok (.lload_n 3, 1) := by decide +kernel
theorem d_Loss_costOf_38 : decode b_Loss_costOf 38 = .ok (.lconst 0, 1) := by decide +kernel
theorem d_Loss_costOf_39 : decode b_Loss_costOf 39 = .ok (.lcmp, 1) := by decide +kernel
theorem d_Loss_costOf_40 : decode b_Loss_costOf 40 = .ok (.ifCond .le (15), 3) := by decide +kernel
theorem d_Loss_costOf_43 : decode b_Loss_costOf 43 = .ok (.ldc2_w 31, 3) := by decide +kernel
theorem d_Loss_costOf_46 : decode b_Loss_costOf 46 = .ok (.lload_n 3, 1) := by decide +kernel
theorem d_Loss_costOf_47 : decode b_Loss_costOf 47 = .ok (.lmul, 1) := by decide +kernel
theorem d_Loss_costOf_48 : decode b_Loss_costOf 48 = .ok (.ldc2_w 33, 3) := by decide +kernel
theorem d_Loss_costOf_51 : decode b_Loss_costOf 51 = .ok (.ldiv, 1) := by decide +kernel
theorem d_Loss_costOf_52 : decode b_Loss_costOf 52 = .ok (.goto (13), 3) := by decide +kernel
theorem d_Loss_costOf_55 : decode b_Loss_costOf 55 = .ok (.ldc2_w 35, 3) := by decide +kernel
theorem d_Loss_costOf_58 : decode b_Loss_costOf 58 = .ok (.lload_n 3, 1) := by decide +kernel
theorem d_Loss_costOf_59 : decode b_Loss_costOf 59 = .ok (.lneg, 1) := by decide +kernel
theorem d_Loss_costOf_60 : decode b_Loss_costOf 60 = .ok (.lmul, 1) := by decide +kernel
theorem d_Loss_costOf_61 : decode b_Loss_costOf 61 = .ok (.ldc2_w 33, 3) := by decide +kernel
theorem d_Loss_costOf_64 : decode b_Loss_costOf 64 = .ok (.ldiv, 1) := by decide +kernel
theorem d_Loss_costOf_65 : decode b_Loss_costOf 65 = .ok (.lreturn, 1) := by decide +kernel
theorem d_Loss_costOf_66 : decode b_Loss_costOf 66 = .ok (.lload_n 3, 1) := by decide +kernel
theorem d_Loss_costOf_67 : decode b_Loss_costOf 67 = .ok (.lload_n 3, 1) := by decide +kernel
theorem d_Loss_costOf_68 : decode b_Loss_costOf 68 = .ok (.lmul, 1) := by decide +kernel
theorem d_Loss_costOf_69 : decode b_Loss_costOf 69 = .ok (.ldc2_w 33, 3) := by decide +kernel
theorem d_Loss_costOf_72 : decode b_Loss_costOf 72 = .ok (.ldiv, 1) := by decide +kernel
theorem d_Loss_costOf_73 : decode b_Loss_costOf 73 = .ok (.lreturn, 1) := by decide +kernel
def f_Loss_costOf (kd : Int32) (pr : Int32) (lb : Int32) : Int64 := if kd = 1 then Int32.toInt64 (if 0 < (100 - ((f_Loss_sideOf lb) * pr)) then (100 - ((f_Loss_sideOf lb) * pr)) else 0) else if kd = 2 then if ((Int32.toInt64 pr) - (Int32.toInt64 lb)) ≤ 0 then (25 * (-((Int32.toInt64 pr) - (Int32.toInt64 lb)))) / 100 else (75 * ((Int32.toInt64 pr) - (Int32.toInt64 lb))) / 100 else (((Int32.toInt64 pr) - (Int32.toInt64 lb)) * ((Int32.toInt64 pr) - (Int32.toInt64 lb))) / 100
set_option maxHeartbeats 4000000 in
set_option maxRecDepth 100000 in
theorem c_Loss_costOf (l : Launch) (D : va_G) (G : Nat → ClassId) (A : Nat → Prop) (Z : va_W) (h : Nat) (kd : Int32) (pr : Int32) (lb : Int32) : hq_FL l D G A y_Loss_costOf b_Loss_costOf 5 1 [.ref h, .int pr, .int lb] ([hq_o3 h kd] ++ Z) (f_Loss_costOf kd pr lb) ([hq_o3 h kd] ++ Z) := by
  refine hq_bL (by decide) (Nat.le_of_ble_eq_true rfl) ?_
  intro p e s m args below meth c Q hx hb hml hts hown hA hK hN hret ls H locs hl hP hD hS
  have hown : s.vm.findClass "HashedLearner$Loss" = some m.cls := hown
  have hl : lv_has ls 5 [(0, .ref h), (1, .int pr), (2, .int lb)] := hl
  refine lv_aload_n hx hb d_Loss_costOf_0 rfl (lv_at hl 0 rfl) ?_
  refine va_get (D := D) (ci := 3) (v := .int kd) (C := R_Loss) (T := F_Loss) (N := 1) hx hb hts uw_Loss hown hK hP 0 rfl rfl 0 (by decide) (hts _ fl_Loss_9) (fun _ h9 => h9) rfl d_Loss_costOf_1 ?_
  refine lv_iconst (v := 1) hx hb d_Loss_costOf_4 (by decide) ?_
  refine lv_icmp_ne (tgt := 23) hx hb d_Loss_costOf_5 rfl (fun c5 => ?_) (fun c5 => ?_)
  · -- 5 taken
    have c5 : ¬ kd = 1 := c5
    refine lv_iload_n hx hb d_Loss_costOf_23 rfl (lv_at hl 1 rfl) ?_
    refine lv_i2l (v := Int32.toInt64 pr) hx hb d_Loss_costOf_24 rfl ?_
    refine lv_iload_n hx hb d_Loss_costOf_25 rfl (lv_at hl 2 rfl) ?_
    refine lv_i2l (v := Int32.toInt64 lb) hx hb d_Loss_costOf_26 rfl ?_
    refine lv_lsub hx hb d_Loss_costOf_27 ?_
    refine lv_lstore_n (nL := 5) (lv' := [(3, .long ((Int32.toInt64 pr) - (Int32.toInt64 lb))), (0, .ref h), (1, .int pr), (2, .int lb)]) hx hb d_Loss_costOf_28 rfl hl (by decide) rfl (fun ls hl => ?_)
    refine lv_aload_n hx hb d_Loss_costOf_29 rfl (lv_at hl 1 rfl) ?_
    refine va_get (D := D) (ci := 3) (v := .int kd) (C := R_Loss) (T := F_Loss) (N := 1) hx hb hts uw_Loss hown hK hP 0 rfl rfl 0 (by decide) (hts _ fl_Loss_9) (fun _ h9 => h9) rfl d_Loss_costOf_30 ?_
    refine lv_iconst (v := 2) hx hb d_Loss_costOf_33 (by decide) ?_
    refine lv_icmp_ne (tgt := 66) hx hb d_Loss_costOf_34 rfl (fun c34 => ?_) (fun c34 => ?_)
    · -- 34 taken
      have c34 : ¬ kd = 2 := c34
      refine lv_lload_n hx hb d_Loss_costOf_66 rfl (lv_at hl 0 rfl) ?_
      refine lv_lload_n hx hb d_Loss_costOf_67 rfl (lv_at hl 0 rfl) ?_
      refine lv_lmul hx hb d_Loss_costOf_68 ?_
      refine lv_ldc2 (v := 100) hx hb hown (hts _ kl_Loss_33) d_Loss_costOf_69 ?_
      refine lv_ldiv hx hb d_Loss_costOf_72 (by decide) ?_
      exact hret ((((Int32.toInt64 pr) - (Int32.toInt64 lb)) * ((Int32.toInt64 pr) - (Int32.toInt64 lb))) / 100) () H locs 73 ls d_Loss_costOf_73 (by rw [f_Loss_costOf, if_neg c5, if_neg c34] <;> rfl) hP hD hS
    · -- 34 not taken
      have c34 : kd = 2 := c34
      refine lv_lload_n hx hb d_Loss_costOf_37 rfl (lv_at hl 0 rfl) ?_
      refine lv_lconst (v := 0) hx hb d_Loss_costOf_38 (by decide) ?_
      refine W.lcmp hx hb d_Loss_costOf_39 ?_
      refine lv_if_le (tgt := 55) hx hb d_Loss_costOf_40 rfl (fun c40 => ?_) (fun c40 => ?_)
      · -- 40 taken
        have c40 : ((Int32.toInt64 pr) - (Int32.toInt64 lb)) ≤ 0 := (lg_cmp_le ((Int32.toInt64 pr) - (Int32.toInt64 lb)) 0).mp c40
        refine lv_ldc2 (v := 25) hx hb hown (hts _ kl_Loss_35) d_Loss_costOf_55 ?_
        refine lv_lload_n hx hb d_Loss_costOf_58 rfl (lv_at hl 0 rfl) ?_
        refine lv_lneg hx hb d_Loss_costOf_59 ?_
        refine lv_lmul hx hb d_Loss_costOf_60 ?_
        refine lv_ldc2 (v := 100) hx hb hown (hts _ kl_Loss_33) d_Loss_costOf_61 ?_
        refine lv_ldiv hx hb d_Loss_costOf_64 (by decide) ?_
        exact hret ((25 * (-((Int32.toInt64 pr) - (Int32.toInt64 lb)))) / 100) () H locs 65 ls d_Loss_costOf_65 (by rw [f_Loss_costOf, if_neg c5, if_pos c34, if_pos c40] <;> rfl) hP hD hS
      · -- 40 not taken
        have c40 : ¬ ((Int32.toInt64 pr) - (Int32.toInt64 lb)) ≤ 0 := fun h => c40 ((lg_cmp_le ((Int32.toInt64 pr) - (Int32.toInt64 lb)) 0).mpr h)
        refine lv_ldc2 (v := 75) hx hb hown (hts _ kl_Loss_31) d_Loss_costOf_43 ?_
        refine lv_lload_n hx hb d_Loss_costOf_46 rfl (lv_at hl 0 rfl) ?_
        refine lv_lmul hx hb d_Loss_costOf_47 ?_
        refine lv_ldc2 (v := 100) hx hb hown (hts _ kl_Loss_33) d_Loss_costOf_48 ?_
        refine lv_ldiv hx hb d_Loss_costOf_51 (by decide) ?_
        refine lv_goto (tgt := 65) hx hb d_Loss_costOf_52 rfl ?_
        exact hret ((75 * ((Int32.toInt64 pr) - (Int32.toInt64 lb))) / 100) () H locs 65 ls d_Loss_costOf_65 (by rw [f_Loss_costOf, if_neg c5, if_pos c34, if_neg c40] <;> rfl) hP hD hS
  · -- 5 not taken
    have c5 : kd = 1 := c5
    refine lv_iconst (v := 0) hx hb d_Loss_costOf_8 (by decide) ?_
    refine lv_bipush (v := 100) hx hb d_Loss_costOf_9 (by decide) ?_
    refine lv_iload_n hx hb d_Loss_costOf_11 rfl (lv_at hl 2 rfl) ?_
    have hPc : va_P D hq_cl ([] ++ ([hq_o3 h kd] ++ Z)) H := hP
    have hDc : va_D A ([] ++ ([hq_o3 h kd] ++ Z)) := hD
    refine hq_iF (hq_rS (As := [.int lb]) (rest := [.int 100, .int 0]) hx hb hml hown hts (c_Loss_sideOf l D G A ([hq_o3 h kd] ++ Z) lb) yy_Loss_sideOf lk_Loss_15 hA hK hN hS hPc hDc rfl hl.1 rfl (Nat.le_of_ble_eq_true rfl) d_Loss_costOf_12 ⟨by decide, by decide⟩ ⟨by decide, by decide⟩) hS (fun H locs hP hD hS => ?_)
    have hP : va_P D hq_cl ([hq_o3 h kd] ++ Z) H := hP
    have hD : va_D A ([hq_o3 h kd] ++ Z) := hD
    refine lv_iload_n hx hb d_Loss_costOf_15 rfl (lv_at hl 1 rfl) ?_
    refine lv_imul hx hb d_Loss_costOf_16 ?_
    refine lv_isub hx hb d_Loss_costOf_17 ?_
    refine va_mmax hx hb (by rw [hml]; exact hl.1.symm) hown (hts _ ma_Loss_25) (hts _ ma_s_max) (hts _ ma_i) (hts _ ma_c_max) (by decide) (Nat.le_of_ble_eq_true rfl) (by decide) (by decide) d_Loss_costOf_18 ?_
    refine lv_i2l (v := Int32.toInt64 (if 0 < (100 - ((f_Loss_sideOf lb) * pr)) then (100 - ((f_Loss_sideOf lb) * pr)) else 0)) hx hb d_Loss_costOf_21 rfl ?_
    exact hret (Int32.toInt64 (if 0 < (100 - ((f_Loss_sideOf lb) * pr)) then (100 - ((f_Loss_sideOf lb) * pr)) else 0)) () H locs 22 ls d_Loss_costOf_22 (by rw [f_Loss_costOf, if_pos c5] <;> rfl) hP hD hS
theorem d_H_areDigits_0 : decode b_H_areDigits 0 = .ok (.iload_n 1, 1) := by decide +kernel
theorem d_H_areDigits_1 : decode b_H_areDigits 1 = .ok (.iload_n 2, 1) := by decide +kernel
theorem d_H_areDigits_2 : decode b_H_areDigits 2 = .ok (.if_icmp .ge (10), 3) := by decide +kernel
theorem d_H_areDigits_5 : decode b_H_areDigits 5 = .ok (.iload_n 2, 1) := by decide +kernel
theorem d_H_areDigits_6 : decode b_H_areDigits 6 = .ok (.iload_n 1, 1) := by decide +kernel
theorem d_H_areDigits_7 : decode b_H_areDigits 7 = .ok (.isub, 1) := by decide +kernel
theorem d_H_areDigits_8 : decode b_H_areDigits 8 = .ok (.iload_n 3, 1) := by decide +kernel
theorem d_H_areDigits_9 : decode b_H_areDigits 9 = .ok (.if_icmp .le (5), 3) := by decide +kernel
theorem d_H_areDigits_12 : decode b_H_areDigits 12 = .ok (.iconst 0, 1) := by decide +kernel
theorem d_H_areDigits_13 : decode b_H_areDigits 13 = .ok (.ireturn, 1) := by decide +kernel
theorem d_H_areDigits_14 : decode b_H_areDigits 14 = .ok (.iload_n 1, 1) := by decide +kernel
theorem d_H_areDigits_15 : decode b_H_areDigits 15 = .ok (.istore 4, 2) := by decide +kernel
theorem d_H_areDigits_17 : decode b_H_areDigits 17 = .ok (.iload 4, 2) := by decide +kernel
theorem d_H_areDigits_19 : decode b_H_areDigits 19 = .ok (.iload_n 2, 1) := by decide +kernel
theorem d_H_areDigits_20 : decode b_H_areDigits 20 = .ok (.if_icmp .ge (29), 3) := by decide +kernel
theorem d_H_areDigits_23 : decode b_H_areDigits 23 = .ok (.aload_n 0, 1) := by decide +kernel
theorem d_H_areDigits_24 : decode b_H_areDigits 24 = .ok (.iload 4, 2) := by decide +kernel
theorem d_H_areDigits_26 : decode b_H_areDigits 26 = .ok (.caload, 1) := by decide +kernel
theorem d_H_areDigits_27 : decode b_H_areDigits 27 = .ok (.bipush (48), 2) := by decide +kernel
theorem d_H_areDigits_29 : decode b_H_areDigits 29 = .ok (.if_icmp .lt (12), 3) := by decide +kernel
theorem d_H_areDigits_32 : decode b_H_areDigits 32 = .ok (.aload_n 0, 1) := by decide +kernel
theorem d_H_areDigits_33 : decode b_H_areDigits 33 = .ok (.iload 4, 2) := by decide +kernel
theorem d_H_areDigits_35 : decode b_H_areDigits 35 = .ok (.caload, 1) := by decide +kernel
theorem d_H_areDigits_36 : decode b_H_areDigits 36 = .ok (.bipush (57), 2) := by decide +kernel
theorem d_H_areDigits_38 : decode b_H_areDigits 38 = .ok (.if_icmp .le (5), 3) := by decide +kernel
theorem d_H_areDigits_41 : decode b_H_areDigits 41 = .ok (.iconst 0, 1) := by decide +kernel
theorem d_H_areDigits_42 : decode b_H_areDigits 42 = .ok (.ireturn, 1) := by decide +kernel
theorem d_H_areDigits_43 : decode b_H_areDigits 43 = .ok (.iinc 4 (1), 3) := by decide +kernel
theorem d_H_areDigits_46 : decode b_H_areDigits 46 = .ok (.goto (-29), 3) := by decide +kernel
theorem d_H_areDigits_49 : decode b_H_areDigits 49 = .ok (.iconst 1, 1) := by decide +kernel
theorem d_H_areDigits_50 : decode b_H_areDigits 50 = .ok (.ireturn, 1) := by decide +kernel
set_option maxHeartbeats 4000000 in
set_option maxRecDepth 100000 in
theorem c_H_areDigits (l : Launch) (D : va_G) (G : Nat → ClassId) (A : Nat → Prop) (Z : va_W) (ta : Nat) (n : Nat) (t : Nat → Int32) (i : Nat) (j : Nat) (most : Nat) (hn : n < 2 ^ 30) (hj : j ≤ n) (hi : i < 2 ^ 30) (hm : most < 2 ^ 30) : hq_FI l D G A y_H_areDigits b_H_areDigits 5 .boolean 0 [.ref ta, .int (nI i), .int (nI j), .int (nI most)] ([hq_ai ta (G 2) n t] ++ Z) (hq_z (hq_areD t i j most)) ([hq_ai ta (G 2) n t] ++ Z) := by
  refine hq_bI (by decide) (Nat.le_of_ble_eq_true rfl) (fun r u h => by rw [h]; exact hq_znar _) ?_
  intro p e s m args below meth c Q hx hb hml hts hown hA hK hN hret ls H locs hl hP hD hS
  have hown : s.vm.findClass "HashedLearner" = some m.cls := hown
  have hl : lv_has ls 5 [(0, .ref ta), (1, .int (nI i)), (2, .int (nI j)), (3, .int (nI most))] := hl
  refine lv_iload_n hx hb d_H_areDigits_0 rfl (lv_at hl 1 rfl) ?_
  refine lv_iload_n hx hb d_H_areDigits_1 rfl (lv_at hl 2 rfl) ?_
  refine lv_icmp_ge (tgt := 12) hx hb d_H_areDigits_2 rfl (fun c2 => ?_) (fun c2 => ?_)
  · -- 2 taken
    have c2 : j ≤ i := (nI_leI (a := j) (b := i) (by omega) (by omega)).mp c2
    refine lv_iconst (v := 0) hx hb d_H_areDigits_12 (by decide) ?_
    exact hret 0 () H locs 13 ls d_H_areDigits_13 (by rw [hq_areD_no (t := t) (m := most) c2] <;> rfl) hP hD hS
  · -- 2 not taken
    have c2 : ¬ j ≤ i := fun h => c2 ((nI_leI (a := j) (b := i) (by omega) (by omega)).mpr h)
    refine lv_iload_n hx hb d_H_areDigits_5 rfl (lv_at hl 2 rfl) ?_
    refine lv_iload_n hx hb d_H_areDigits_6 rfl (lv_at hl 1 rfl) ?_
    refine lv_isub hx hb d_H_areDigits_7 ?_
    refine hq_topi (x' := nI (j - i)) (pk_sub (by omega)) ?_
    refine lv_iload_n hx hb d_H_areDigits_8 rfl (lv_at hl 3 rfl) ?_
    refine lv_icmp_le (tgt := 14) hx hb d_H_areDigits_9 rfl (fun c9 => ?_) (fun c9 => ?_)
    · -- 9 taken
      have c9 : (j - i) ≤ most := (nI_leI (a := j - i) (b := most) (by omega) (by omega)).mp c9
      refine lv_iload_n hx hb d_H_areDigits_14 rfl (lv_at hl 1 rfl) ?_
      refine lv_istore (nL := 5) (lv' := [(4, .int (nI i)), (0, .ref ta), (1, .int (nI i)), (2, .int (nI j)), (3, .int (nI most))]) hx hb d_H_areDigits_15 hl (by decide) rfl (fun ls hl => ?_)
      have cut17 : ∀ (kz : Nat) (a : Nat) (ls : Array Slot) (H : Heap) (locs : List Loc), j - a = kz → (a ≤ j) → (hq_areD t i j most = hq_allD t a (j - a)) → lv_has ls 5 [(0, .ref ta), (2, .int (nI j)), (4, .int (nI a))] → va_P D hq_cl ([hq_ai ta (G 2) n t] ++ Z) H → va_D A ([hq_ai ta (G 2) n t] ++ Z) → va_S A s.heap H locs → W p l e (hq_rm 0 0 0) s m args below meth c H locs 0 0 Q (F0 m 17 ls []) := by
        intro kz
        induction kz using Nat.strongRecOn with
        | ind kz ih =>
          intro a ls H locs hkz ha hF hl hP hD hS
          subst hkz
          refine lv_iload hx hb d_H_areDigits_17 (lv_at hl 2 rfl) ?_
          refine lv_iload_n hx hb d_H_areDigits_19 rfl (lv_at hl 1 rfl) ?_
          refine lv_icmp_ge (tgt := 49) hx hb d_H_areDigits_20 rfl (fun c20 => ?_) (fun c20 => ?_)
          · -- 20 taken
            have c20 : j ≤ a := (nI_leI (a := j) (b := a) (by omega) (by omega)).mp c20
            refine lv_iconst (v := 1) hx hb d_H_areDigits_49 (by decide) ?_
            exact hret 1 () H locs 50 ls d_H_areDigits_50 (by rw [hF, hq_allD_end (t := t) (a := a) (j := j) (by omega)] <;> rfl) hP hD hS
          · -- 20 not taken
            have c20 : ¬ j ≤ a := fun h => c20 ((nI_leI (a := j) (b := a) (by omega) (by omega)).mpr h)
            refine lv_aload_n hx hb d_H_areDigits_23 rfl (lv_at hl 0 rfl) ?_
            refine lv_iload hx hb d_H_areDigits_24 (lv_at hl 2 rfl) ?_
            refine hq_cald (j := a) hx hb hK hP 0 rfl (by omega) (by omega) d_H_areDigits_26 ?_
            refine lv_bipush (v := 48) hx hb d_H_areDigits_27 (by decide) ?_
            refine lv_icmp_lt (tgt := 41) hx hb d_H_areDigits_29 rfl (fun c29 => ?_) (fun c29 => ?_)
            · -- 29 taken
              have c29 : (t a) < 48 := c29
              refine lv_iconst (v := 0) hx hb d_H_areDigits_41 (by decide) ?_
              exact hret 0 () H locs 42 ls d_H_areDigits_42 (by first | (rw [hF, hq_allD_lo (t := t) (a := a) (j := j) (by omega) c29] <;> rfl) | (rw [hF, hq_allD_hi (t := t) (a := a) (j := j) (by omega) c38] <;> rfl)) hP hD hS
            · -- 29 not taken
              have c29 : ¬ (t a) < 48 := c29
              refine lv_aload_n hx hb d_H_areDigits_32 rfl (lv_at hl 0 rfl) ?_
              refine lv_iload hx hb d_H_areDigits_33 (lv_at hl 2 rfl) ?_
              refine hq_cald (j := a) hx hb hK hP 0 rfl (by omega) (by omega) d_H_areDigits_35 ?_
              refine lv_bipush (v := 57) hx hb d_H_areDigits_36 (by decide) ?_
              refine lv_icmp_le (tgt := 43) hx hb d_H_areDigits_38 rfl (fun c38 => ?_) (fun c38 => ?_)
              · -- 38 taken
                have c38 : (t a) ≤ 57 := c38
                refine lv_iinc (nL := 5) (k := 2) (v := nI (a + 1)) (lv' := [(4, .int (nI (a + 1))), (0, .ref ta), (2, .int (nI j))]) hx hb d_H_areDigits_43 hl rfl (nI_add a 1) (by decide) rfl (fun ls hl => ?_)
                refine lv_goto (tgt := 17) hx hb d_H_areDigits_46 rfl ?_
                exact ih _ (by omega) (a + 1) ls H locs rfl (by first | assumption | omega) (by first | exact hq_areD_all c2 c9 | exact hF.trans (hq_allD_yes (by omega) (Int32.not_lt.mp c29) c38)) (lv_sub hl [1, 2, 0] rfl) hP hD hS
              · -- 38 not taken
                have c38 : ¬ (t a) ≤ 57 := c38
                refine lv_iconst (v := 0) hx hb d_H_areDigits_41 (by decide) ?_
                exact hret 0 () H locs 42 ls d_H_areDigits_42 (by first | (rw [hF, hq_allD_lo (t := t) (a := a) (j := j) (by omega) c29] <;> rfl) | (rw [hF, hq_allD_hi (t := t) (a := a) (j := j) (by omega) c38] <;> rfl)) hP hD hS
      exact cut17 _ i ls H locs rfl (by first | assumption | omega) (by first | exact hq_areD_all c2 c9 | exact hF.trans (hq_allD_yes (by omega) (Int32.not_lt.mp c29) c38)) (lv_sub hl [1, 3, 0] rfl) hP hD hS
    · -- 9 not taken
      have c9 : ¬ (j - i) ≤ most := fun h => c9 ((nI_leI (a := j - i) (b := most) (by omega) (by omega)).mpr h)
      refine lv_iconst (v := 0) hx hb d_H_areDigits_12 (by decide) ?_
      exact hret 0 () H locs 13 ls d_H_areDigits_13 (by rw [hq_areD_long (t := t) (m := most) c9] <;> rfl) hP hD hS
theorem d_H_digitsToInt_0 : decode b_H_digitsToInt 0 = .ok (.iconst 0, 1) := by decide +kernel
theorem d_H_digitsToInt_1 : decode b_H_digitsToInt 1 = .ok (.istore_n 3, 1) := by decide +kernel
theorem d_H_digitsToInt_2 : decode b_H_digitsToInt 2 = .ok (.iload_n 1, 1) := by decide +kernel
theorem d_H_digitsToInt_3 : decode b_H_digitsToInt 3 = .ok (.istore 4, 2) := by decide +kernel
theorem d_H_digitsToInt_5 : decode b_H_digitsToInt 5 = .ok (.iload 4, 2) := by decide +kernel
theorem d_H_digitsToInt_7 : decode b_H_digitsToInt 7 = .ok (.iload_n 2, 1) := by decide +kernel
theorem d_H_digitsToInt_8 : decode b_H_digitsToInt 8 = .ok (.if_icmp .ge (22), 3) := by decide +kernel
theorem d_H_digitsToInt_11 : decode b_H_digitsToInt 11 = .ok (.iload_n 3, 1) := by decide +kernel
theorem d_H_digitsToInt_12 : decode b_H_digitsToInt 12 = .ok (.bipush (10), 2) := by decide +kernel
theorem d_H_digitsToInt_14 : decode b_H_digitsToInt 14 = .ok (.imul, 1) := by decide +kernel
theorem d_H_digitsToInt_15 : decode b_H_digitsToInt 15 = .ok (.aload_n 0, 1) := by decide +kernel
theorem d_H_digitsToInt_16 : decode b_H_digitsToInt 16 = .ok (.iload 4, 2) := by decide +kernel
theorem d_H_digitsToInt_18 : decode b_H_digitsToInt 18 = .ok (.caload, 1) := by decide +kernel
theorem d_H_digitsToInt_19 : decode b_H_digitsToInt 19 = .ok (.bipush (48), 2) := by decide +kernel
theorem d_H_digitsToInt_21 : decode b_H_digitsToInt 21 = .ok (.isub, 1) := by decide +kernel
theorem d_H_digitsToInt_22 : decode b_H_digitsToInt 22 = .ok (.iadd, 1) := by decide +kernel
theorem d_H_digitsToInt_23 : decode b_H_digitsToInt 23 = .ok (.istore_n 3, 1) := by decide +kernel
theorem d_H_digitsToInt_24 : decode b_H_digitsToInt 24 = .ok (.iinc 4 (1), 3) := by decide +kernel
theorem d_H_digitsToInt_27 : decode b_H_digitsToInt 27 = .ok (.goto (-22), 3) := by decide +kernel
theorem d_H_digitsToInt_30 : decode b_H_digitsToInt 30 = .ok (.iload_n 3, 1) := by decide +kernel
theorem d_H_digitsToInt_31 : decode b_H_digitsToInt 31 = .ok (.ireturn, 1) := by decide +kernel
set_option maxHeartbeats 4000000 in
set_option maxRecDepth 100000 in
theorem c_H_digitsToInt (l : Launch) (D : va_G) (G : Nat → ClassId) (A : Nat → Prop) (Z : va_W) (ta : Nat) (n : Nat) (t : Nat → Int32) (i : Nat) (j : Nat) (hn : n < 2 ^ 30) (hj : j ≤ n) (hi : i < 2 ^ 30) : hq_FI l D G A y_H_digitsToInt b_H_digitsToInt 5 .int 0 [.ref ta, .int (nI i), .int (nI j)] ([hq_ai ta (G 2) n t] ++ Z) (hq_dec t i (j - i) 0) ([hq_ai ta (G 2) n t] ++ Z) := by
  refine hq_bI (by decide) (Nat.le_of_ble_eq_true rfl) (fun _ _ _ => rfl) ?_
  intro p e s m args below meth c Q hx hb hml hts hown hA hK hN hret ls H locs hl hP hD hS
  have hown : s.vm.findClass "HashedLearner" = some m.cls := hown
  have hl : lv_has ls 5 [(0, .ref ta), (1, .int (nI i)), (2, .int (nI j))] := hl
  refine lv_iconst (v := 0) hx hb d_H_digitsToInt_0 (by decide) ?_
  refine lv_istore_n (nL := 5) (lv' := [(3, .int 0), (0, .ref ta), (1, .int (nI i)), (2, .int (nI j))]) hx hb d_H_digitsToInt_1 rfl hl (by decide) rfl (fun ls hl => ?_)
  refine lv_iload_n hx hb d_H_digitsToInt_2 rfl (lv_at hl 2 rfl) ?_
  refine lv_istore (nL := 5) (lv' := [(4, .int (nI i)), (3, .int 0), (0, .ref ta), (1, .int (nI i)), (2, .int (nI j))]) hx hb d_H_digitsToInt_3 hl (by decide) rfl (fun ls hl => ?_)
  have cut5 : ∀ (kz : Nat) (a : Nat) (x : Int32) (ls : Array Slot) (H : Heap) (locs : List Loc), j - a = kz → (a < 2 ^ 30) → (hq_dec t i (j - i) 0 = hq_dec t a (j - a) x) → lv_has ls 5 [(0, .ref ta), (2, .int (nI j)), (3, .int x), (4, .int (nI a))] → va_P D hq_cl ([hq_ai ta (G 2) n t] ++ Z) H → va_D A ([hq_ai ta (G 2) n t] ++ Z) → va_S A s.heap H locs → W p l e (hq_rm 0 0 0) s m args below meth c H locs 0 0 Q (F0 m 5 ls []) := by
    intro kz
    induction kz using Nat.strongRecOn with
    | ind kz ih =>
      intro a x ls H locs hkz ha hF hl hP hD hS
      subst hkz
      refine lv_iload hx hb d_H_digitsToInt_5 (lv_at hl 3 rfl) ?_
      refine lv_iload_n hx hb d_H_digitsToInt_7 rfl (lv_at hl 1 rfl) ?_
      refine lv_icmp_ge (tgt := 30) hx hb d_H_digitsToInt_8 rfl (fun c8 => ?_) (fun c8 => ?_)
      · -- 8 taken
        have c8 : j ≤ a := (nI_leI (a := j) (b := a) (by omega) (by omega)).mp c8
        refine lv_iload_n hx hb d_H_digitsToInt_30 rfl (lv_at hl 2 rfl) ?_
        exact hret x () H locs 31 ls d_H_digitsToInt_31 (by rw [hF, hq_dec_end (t := t) (a := a) (j := j) (by omega)]) hP hD hS
      · -- 8 not taken
        have c8 : ¬ j ≤ a := fun h => c8 ((nI_leI (a := j) (b := a) (by omega) (by omega)).mpr h)
        refine lv_iload_n hx hb d_H_digitsToInt_11 rfl (lv_at hl 2 rfl) ?_
        refine lv_bipush (v := 10) hx hb d_H_digitsToInt_12 (by decide) ?_
        refine lv_imul hx hb d_H_digitsToInt_14 ?_
        refine lv_aload_n hx hb d_H_digitsToInt_15 rfl (lv_at hl 0 rfl) ?_
        refine lv_iload hx hb d_H_digitsToInt_16 (lv_at hl 3 rfl) ?_
        refine hq_cald (j := a) hx hb hK hP 0 rfl (by omega) (by omega) d_H_digitsToInt_18 ?_
        refine lv_bipush (v := 48) hx hb d_H_digitsToInt_19 (by decide) ?_
        refine lv_isub hx hb d_H_digitsToInt_21 ?_
        refine lv_iadd hx hb d_H_digitsToInt_22 ?_
        refine lv_istore_n (nL := 5) (lv' := [(3, .int ((x * 10) + ((t a) - 48))), (0, .ref ta), (2, .int (nI j)), (4, .int (nI a))]) hx hb d_H_digitsToInt_23 rfl hl (by decide) rfl (fun ls hl => ?_)
        refine lv_iinc (nL := 5) (k := 3) (v := nI (a + 1)) (lv' := [(4, .int (nI (a + 1))), (3, .int ((x * 10) + ((t a) - 48))), (0, .ref ta), (2, .int (nI j))]) hx hb d_H_digitsToInt_24 hl rfl (nI_add a 1) (by decide) rfl (fun ls hl => ?_)
        refine lv_goto (tgt := 5) hx hb d_H_digitsToInt_27 rfl ?_
        exact ih _ (by omega) (a + 1) ((x * 10) + ((t a) - 48)) ls H locs rfl (by first | assumption | omega) (by first | rfl | exact hF.trans (hq_dec_go (by omega))) (lv_sub hl [2, 3, 1, 0] rfl) hP hD hS
  exact cut5 _ i 0 ls H locs rfl (by first | assumption | omega) (by first | rfl | exact hF.trans (hq_dec_go (by omega))) (lv_sub hl [2, 4, 1, 0] rfl) hP hD hS
theorem d_NameHash_block_0 : decode b_NameHash_block 0 = .ok (.iconst 0, 1) := by decide +kernel
theorem d_NameHash_block_1 : decode b_NameHash_block 1 = .ok (.istore_n 3, 1) := by decide +kernel
theorem d_NameHash_block_2 : decode b_NameHash_block 2 = .ok (.iload_n 2, 1) := by decide +kernel
theorem d_NameHash_block_3 : decode b_NameHash_block 3 = .ok (.iconst 1, 1) := by decide +kernel
theorem d_NameHash_block_4 : decode b_NameHash_block 4 = .ok (.isub, 1) := by decide +kernel
theorem d_NameHash_block_5 : decode b_NameHash_block 5 = .ok (.istore 4, 2) := by decide +kernel
theorem d_NameHash_block_7 : decode b_NameHash_block 7 = .ok (.iload 4, 2) := by decide +kernel
theorem d_NameHash_block_9 : decode b_NameHash_block 9 = .ok (.ifCond .lt (22), 3) := by decide +kernel
theorem d_NameHash_block_12 : decode b_NameHash_block 12 = .ok (.iload_n 3, 1) := by decide +kernel
theorem d_NameHash_block_13 : decode b_NameHash_block 13 = .ok (.sipush (256), 3) := by decide +kernel
theorem d_NameHash_block_16 : decode b_NameHash_block 16 = .ok (.imul, 1) := by decide +kernel
theorem d_NameHash_block_17 : decode b_NameHash_block 17 = .ok (.aload_n 0, 1) := by decide +kernel
theorem d_NameHash_block_18 : decode b_NameHash_block 18 = .ok (.iload_n 1, 1) := by decide +kernel
theorem d_NameHash_block_19 : decode b_NameHash_block 19 = .ok (.iload 4, 2) := by decide +kernel
theorem d_NameHash_block_21 : decode b_NameHash_block 21 = .ok (.iadd, 1) := by decide +kernel
theorem d_NameHash_block_22 : decode b_NameHash_block 22 = .ok (.caload, 1) := by decide +kernel
theorem d_NameHash_block_23 : decode b_NameHash_block 23 = .ok (.iadd, 1) := by decide +kernel
theorem d_NameHash_block_24 : decode b_NameHash_block 24 = .ok (.istore_n 3, 1) := by decide +kernel
theorem d_NameHash_block_25 : decode b_NameHash_block 25 = .ok (.iinc 4 (-1), 3) := by decide +kernel
theorem d_NameHash_block_28 : decode b_NameHash_block 28 = .ok (.goto (-21), 3) := by decide +kernel
theorem d_NameHash_block_31 : decode b_NameHash_block 31 = .ok (.iload_n 3, 1) := by decide +kernel
theorem d_NameHash_block_32 : decode b_NameHash_block 32 = .ok (.ireturn, 1) := by decide +kernel
set_option maxHeartbeats 4000000 in
set_option maxRecDepth 100000 in
theorem c_NameHash_block (l : Launch) (D : va_G) (G : Nat → ClassId) (A : Nat → Prop) (Z : va_W) (ta : Nat) (n : Nat) (t : Nat → Int32) (i : Nat) (q : Nat) (hn : n < 2 ^ 30) (hj : i + q ≤ n) : hq_FI l D G A y_NameHash_block b_NameHash_block 5 .int 0 [.ref ta, .int (nI i), .int (nI q)] ([hq_ai ta (G 2) n t] ++ Z) (hq_blk t i q 0) ([hq_ai ta (G 2) n t] ++ Z) := by
  refine hq_bI (by decide) (Nat.le_of_ble_eq_true rfl) (fun _ _ _ => rfl) ?_
  intro p e s m args below meth c Q hx hb hml hts hown hA hK hN hret ls H locs hl hP hD hS
  have hown : s.vm.findClass "HashedLearner$NameHash" = some m.cls := hown
  have hl : lv_has ls 5 [(0, .ref ta), (1, .int (nI i)), (2, .int (nI q))] := hl
  refine lv_iconst (v := 0) hx hb d_NameHash_block_0 (by decide) ?_
  refine lv_istore_n (nL := 5) (lv' := [(3, .int 0), (0, .ref ta), (1, .int (nI i)), (2, .int (nI q))]) hx hb d_NameHash_block_1 rfl hl (by decide) rfl (fun ls hl => ?_)
  refine lv_iload_n hx hb d_NameHash_block_2 rfl (lv_at hl 3 rfl) ?_
  refine lv_iconst (v := 1) hx hb d_NameHash_block_3 (by decide) ?_
  refine lv_isub hx hb d_NameHash_block_4 ?_
  refine lv_istore (nL := 5) (lv' := [(4, .int ((nI q) - 1)), (3, .int 0), (0, .ref ta), (1, .int (nI i)), (2, .int (nI q))]) hx hb d_NameHash_block_5 hl (by decide) rfl (fun ls hl => ?_)
  have cut7 : ∀ (kz : Nat) (a : Nat) (x : Int32) (ls : Array Slot) (H : Heap) (locs : List Loc), a = kz → (a ≤ q) → (hq_blk t i q 0 = hq_blk t i a x) → lv_has ls 5 [(0, .ref ta), (1, .int (nI i)), (3, .int x), (4, .int (nI a - 1))] → va_P D hq_cl ([hq_ai ta (G 2) n t] ++ Z) H → va_D A ([hq_ai ta (G 2) n t] ++ Z) → va_S A s.heap H locs → W p l e (hq_rm 0 0 0) s m args below meth c H locs 0 0 Q (F0 m 7 ls []) := by
    intro kz
    induction kz using Nat.strongRecOn with
    | ind kz ih =>
      intro a x ls H locs hkz ha hF hl hP hD hS
      subst hkz
      rcases a with _ | b
      · skip
        refine lv_iload hx hb d_NameHash_block_7 (lv_at hl 3 rfl) ?_
        refine lv_if_lt (tgt := 31) hx hb d_NameHash_block_9 rfl (fun c9 => ?_) (fun c9 => ?_)
        · -- 9 taken
          have c9 : (nI 0 - 1) < 0 := c9
          refine lv_iload_n hx hb d_NameHash_block_31 rfl (lv_at hl 2 rfl) ?_
          exact hret x () H locs 32 ls d_NameHash_block_32 (hF.symm) hP hD hS
        · -- 9 not taken
          have c9 : ¬ (nI 0 - 1) < 0 := c9
          exact absurd (by decide) c9
      · skip
        rw [nI_pred] at hl
        refine lv_iload hx hb d_NameHash_block_7 (lv_at hl 3 rfl) ?_
        refine lv_if_lt (tgt := 31) hx hb d_NameHash_block_9 rfl (fun c9 => ?_) (fun c9 => ?_)
        · -- 9 taken
          have c9 : b < 0 := (nI_ltI (a := b) (b := 0) (by omega) (by omega)).mp c9
          exact absurd c9 (by omega)
        · -- 9 not taken
          have c9 : ¬ b < 0 := fun h => c9 ((nI_ltI (a := b) (b := 0) (by omega) (by omega)).mpr h)
          refine lv_iload_n hx hb d_NameHash_block_12 rfl (lv_at hl 2 rfl) ?_
          refine lv_sipush (v := 256) hx hb d_NameHash_block_13 (by decide) ?_
          refine lv_imul hx hb d_NameHash_block_16 ?_
          refine lv_aload_n hx hb d_NameHash_block_17 rfl (lv_at hl 0 rfl) ?_
          refine lv_iload_n hx hb d_NameHash_block_18 rfl (lv_at hl 1 rfl) ?_
          refine lv_iload hx hb d_NameHash_block_19 (lv_at hl 3 rfl) ?_
          refine lv_iadd hx hb d_NameHash_block_21 ?_
          refine hq_topi (x' := nI (i + b)) (nI_add i b) ?_
          refine hq_cald (j := i + b) hx hb hK hP 0 rfl (by omega) (by omega) d_NameHash_block_22 ?_
          refine lv_iadd hx hb d_NameHash_block_23 ?_
          refine lv_istore_n (nL := 5) (lv' := [(3, .int ((x * 256) + (t (i + b)))), (0, .ref ta), (1, .int (nI i)), (4, .int (nI b))]) hx hb d_NameHash_block_24 rfl hl (by decide) rfl (fun ls hl => ?_)
          refine lv_iinc (nL := 5) (k := 3) (v := nI b - 1) (lv' := [(4, .int (nI b - 1)), (3, .int ((x * 256) + (t (i + b)))), (0, .ref ta), (1, .int (nI i))]) hx hb d_NameHash_block_25 hl rfl (by rw [Int32.sub_eq_add_neg] <;> rfl) (by decide) rfl (fun ls hl => ?_)
          refine lv_goto (tgt := 7) hx hb d_NameHash_block_28 rfl ?_
          exact ih _ (by omega) b ((x * 256) + (t (i + b))) ls H locs rfl (by first | assumption | omega) (hF) (lv_sub hl [2, 3, 1, 0] rfl) hP hD hS
  exact cut7 _ q 0 ls H locs rfl (by first | assumption | omega) (rfl) (lv_sub hl [2, 3, 1, 0] rfl) hP hD hS
theorem d_Line_find_0 : decode b_Line_find 0 = .ok (.iload_n 2, 1) := by decide +kernel
theorem d_Line_find_1 : decode b_Line_find 1 = .ok (.istore 4, 2) := by decide +kernel
theorem d_Line_find_3 : decode b_Line_find 3 = .ok (.iload 4, 2) := by decide +kernel
theorem d_Line_find_5 : decode b_Line_find 5 = .ok (.iload_n 3, 1) := by decide +kernel
theorem d_Line_find_6 : decode b_Line_find 6 = .ok (.if_icmp .ge (20), 3) := by decide +kernel
theorem d_Line_find_9 : decode b_Line_find 9 = .ok (.aload_n 0, 1) := by decide +kernel
theorem d_Line_find_10 : decode b_Line_find 10 = .ok (.getfield 9, 3) := by decide +kernel
theorem d_Line_find_13 : decode b_Line_find 13 = .ok (.iload 4, 2) := by decide +kernel
theorem d_Line_find_15 : decode b_Line_find 15 = .ok (.caload, 1) := by decide +kernel
theorem d_Line_find_16 : decode b_Line_find 16 = .ok (.iload_n 1, 1) := by decide +kernel
theorem d_Line_find_17 : decode b_Line_find 17 = .ok (.if_icmp .eq (9), 3) := by decide +kernel
theorem d_Line_find_20 : decode b_Line_find 20 = .ok (.iinc 4 (1), 3) := by decide +kernel
theorem d_Line_find_23 : decode b_Line_find 23 = .ok (.goto (-20), 3) := by decide +kernel
theorem d_Line_find_26 : decode b_Line_find 26 = .ok (.iload 4, 2) := by decide +kernel
theorem d_Line_find_28 : decode b_Line_find 28 = .ok (.ireturn, 1) := by decide +kernel
set_option maxHeartbeats 4000000 in
set_option maxRecDepth 100000 in
theorem c_Line_find (l : Launch) (D : va_G) (G : Nat → ClassId) (A : Nat → Prop) (Z : va_W) (h : Nat) (ta : Nat) (t : Nat → Int32) (len : Nat) (ne : Int32) (pn : Int32) (lt : Int32) (sd : Int32) (fc : Int32) (ch : Int32) (i : Nat) (j : Nat) (hj : j ≤ 100) (hi : i < 2 ^ 30) : hq_FI l D G A y_Line_find b_Line_find 5 .int 0 [.ref h, .int ch, .int (nI i), .int (nI j)] ([hq_o2 h ta (nI len) ne pn lt sd fc, hq_ai ta (G 2) 100 t] ++ Z) (nI (hq_fnd t ch i (j - i))) ([hq_o2 h ta (nI len) ne pn lt sd fc, hq_ai ta (G 2) 100 t] ++ Z) := by
  refine hq_bI (by decide) (Nat.le_of_ble_eq_true rfl) (fun _ _ _ => rfl) ?_
  intro p e s m args below meth c Q hx hb hml hts hown hA hK hN hret ls H locs hl hP hD hS
  have hown : s.vm.findClass "HashedLearner$Line" = some m.cls := hown
  have hl : lv_has ls 5 [(0, .ref h), (1, .int ch), (2, .int (nI i)), (3, .int (nI j))] := hl
  refine lv_iload_n hx hb d_Line_find_0 rfl (lv_at hl 2 rfl) ?_
  refine lv_istore (nL := 5) (lv' := [(4, .int (nI i)), (0, .ref h), (1, .int ch), (2, .int (nI i)), (3, .int (nI j))]) hx hb d_Line_find_1 hl (by decide) rfl (fun ls hl => ?_)
  have cut3 : ∀ (kz : Nat) (a : Nat) (ls : Array Slot) (H : Heap) (locs : List Loc), j - a = kz → (a < 2 ^ 30) → (hq_fnd t ch i (j - i) = hq_fnd t ch a (j - a)) → lv_has ls 5 [(0, .ref h), (1, .int ch), (3, .int (nI j)), (4, .int (nI a))] → va_P D hq_cl ([hq_o2 h ta (nI len) ne pn lt sd fc, hq_ai ta (G 2) 100 t] ++ Z) H → va_D A ([hq_o2 h ta (nI len) ne pn lt sd fc, hq_ai ta (G 2) 100 t] ++ Z) → va_S A s.heap H locs → W p l e (hq_rm 0 0 0) s m args below meth c H locs 0 0 Q (F0 m 3 ls []) := by
    intro kz
    induction kz using Nat.strongRecOn with
    | ind kz ih =>
      intro a ls H locs hkz ha hF hl hP hD hS
      subst hkz
      refine lv_iload hx hb d_Line_find_3 (lv_at hl 3 rfl) ?_
      refine lv_iload_n hx hb d_Line_find_5 rfl (lv_at hl 2 rfl) ?_
      refine lv_icmp_ge (tgt := 26) hx hb d_Line_find_6 rfl (fun c6 => ?_) (fun c6 => ?_)
      · -- 6 taken
        have c6 : j ≤ a := (nI_leI (a := j) (b := a) (by omega) (by omega)).mp c6
        refine lv_iload hx hb d_Line_find_26 (lv_at hl 3 rfl) ?_
        exact hret (nI a) () H locs 28 ls d_Line_find_28 (by first | rw [hF, hq_fnd_end (t := t) (c := ch) (a := a) (j := j) (by omega)] | rw [hF, hq_fnd_yes (t := t) (c := ch) (a := a) (j := j) (by omega) c17]) hP hD hS
      · -- 6 not taken
        have c6 : ¬ j ≤ a := fun h => c6 ((nI_leI (a := j) (b := a) (by omega) (by omega)).mpr h)
        refine lv_aload_n hx hb d_Line_find_9 rfl (lv_at hl 0 rfl) ?_
        refine va_get (D := D) (ci := 2) (v := .ref ta) (C := R_Line) (T := F_Line) (N := 7) hx hb hts uw_Line hown hK hP 0 rfl rfl 0 (by decide) (hts _ fl_Line_9) (fun _ h9 => h9) rfl d_Line_find_10 ?_
        refine lv_iload hx hb d_Line_find_13 (lv_at hl 3 rfl) ?_
        refine hq_cald (j := a) hx hb hK hP 1 rfl (by omega) (by omega) d_Line_find_15 ?_
        refine lv_iload_n hx hb d_Line_find_16 rfl (lv_at hl 1 rfl) ?_
        refine lv_icmp_eq (tgt := 26) hx hb d_Line_find_17 rfl (fun c17 => ?_) (fun c17 => ?_)
        · -- 17 taken
          have c17 : (t a) = ch := c17
          refine lv_iload hx hb d_Line_find_26 (lv_at hl 3 rfl) ?_
          exact hret (nI a) () H locs 28 ls d_Line_find_28 (by first | rw [hF, hq_fnd_end (t := t) (c := ch) (a := a) (j := j) (by omega)] | rw [hF, hq_fnd_yes (t := t) (c := ch) (a := a) (j := j) (by omega) c17]) hP hD hS
        · -- 17 not taken
          have c17 : ¬ (t a) = ch := c17
          refine lv_iinc (nL := 5) (k := 3) (v := nI (a + 1)) (lv' := [(4, .int (nI (a + 1))), (0, .ref h), (1, .int ch), (3, .int (nI j))]) hx hb d_Line_find_20 hl rfl (nI_add a 1) (by decide) rfl (fun ls hl => ?_)
          refine lv_goto (tgt := 3) hx hb d_Line_find_23 rfl ?_
          exact ih _ (by omega) (a + 1) ls H locs rfl (by first | assumption | omega) (by first | rfl | exact hF.trans (hq_fnd_no (by omega) c17)) (lv_sub hl [1, 2, 3, 0] rfl) hP hD hS
  exact cut3 _ i ls H locs rfl (by first | assumption | omega) (by first | rfl | exact hF.trans (hq_fnd_no (by omega) c17)) (lv_sub hl [1, 2, 4, 0] rfl) hP hD hS
theorem d_Line_skipSpaces_0 : decode b_Line_skipSpaces 0 = .ok (.iload_n 1, 1) := by decide +kernel
theorem d_Line_skipSpaces_1 : decode b_Line_skipSpaces 1 = .ok (.istore_n 3, 1) := by decide +kernel
theorem d_Line_skipSpaces_2 : decode b_Line_skipSpaces 2 = .ok (.iload_n 3, 1) := by decide +kernel
theorem d_Line_skipSpaces_3 : decode b_Line_skipSpaces 3 = .ok (.iload_n 2, 1) := by decide +kernel
theorem d_Line_skipSpaces_4 : decode b_Line_skipSpaces 4 = .ok (.if_icmp .ge (20), 3) := by decide +kernel
theorem d_Line_skipSpaces_7 : decode b_Line_skipSpaces 7 = .ok (.aload_n 0, 1) := by decide +kernel
theorem d_Line_skipSpaces_8 : decode b_Line_skipSpaces 8 = .ok (.getfield 9, 3) := by decide +kernel
theorem d_Line_skipSpaces_11 : decode b_Line_skipSpaces 11 = .ok (.iload_n 3, 1) := by decide +kernel
theorem d_Line_skipSpaces_12 : decode b_Line_skipSpaces 12 = .ok (.caload, 1) := by decide +kernel
theorem d_Line_skipSpaces_13 : decode b_Line_skipSpaces 13 = .ok (.bipush (32), 2) := by decide +kernel
theorem d_Line_skipSpaces_15 : decode b_Line_skipSpaces 15 = .ok (.if_icmp .ne (9), 3) := by decide +kernel
theorem d_Line_skipSpaces_18 : decode b_Line_skipSpaces 18 = .ok (.iinc 3 (1), 3) := by decide +kernel
theorem d_Line_skipSpaces_21 : decode b_Line_skipSpaces 21 = .ok (.goto (-19), 3) := by decide +kernel
theorem d_Line_skipSpaces_24 : decode b_Line_skipSpaces 24 = .ok (.iload_n 3, 1) := by decide +kernel
theorem d_Line_skipSpaces_25 : decode b_Line_skipSpaces 25 = .ok (.ireturn, 1) := by decide +kernel
set_option maxHeartbeats 4000000 in
set_option maxRecDepth 100000 in
theorem c_Line_skipSpaces (l : Launch) (D : va_G) (G : Nat → ClassId) (A : Nat → Prop) (Z : va_W) (h : Nat) (ta : Nat) (t : Nat → Int32) (len : Nat) (ne : Int32) (pn : Int32) (lt : Int32) (sd : Int32) (fc : Int32) (i : Nat) (j : Nat) (hj : j ≤ 100) (hi : i < 2 ^ 30) : hq_FI l D G A y_Line_skipSpaces b_Line_skipSpaces 4 .int 0 [.ref h, .int (nI i), .int (nI j)] ([hq_o2 h ta (nI len) ne pn lt sd fc, hq_ai ta (G 2) 100 t] ++ Z) (nI (hq_skp t 32 i (j - i))) ([hq_o2 h ta (nI len) ne pn lt sd fc, hq_ai ta (G 2) 100 t] ++ Z) := by
  refine hq_bI (by decide) (Nat.le_of_ble_eq_true rfl) (fun _ _ _ => rfl) ?_
  intro p e s m args below meth c Q hx hb hml hts hown hA hK hN hret ls H locs hl hP hD hS
  have hown : s.vm.findClass "HashedLearner$Line" = some m.cls := hown
  have hl : lv_has ls 4 [(0, .ref h), (1, .int (nI i)), (2, .int (nI j))] := hl
  refine lv_iload_n hx hb d_Line_skipSpaces_0 rfl (lv_at hl 1 rfl) ?_
  refine lv_istore_n (nL := 4) (lv' := [(3, .int (nI i)), (0, .ref h), (1, .int (nI i)), (2, .int (nI j))]) hx hb d_Line_skipSpaces_1 rfl hl (by decide) rfl (fun ls hl => ?_)
  have cut2 : ∀ (kz : Nat) (a : Nat) (ls : Array Slot) (H : Heap) (locs : List Loc), j - a = kz → (a < 2 ^ 30) → (hq_skp t 32 i (j - i) = hq_skp t 32 a (j - a)) → lv_has ls 4 [(0, .ref h), (2, .int (nI j)), (3, .int (nI a))] → va_P D hq_cl ([hq_o2 h ta (nI len) ne pn lt sd fc, hq_ai ta (G 2) 100 t] ++ Z) H → va_D A ([hq_o2 h ta (nI len) ne pn lt sd fc, hq_ai ta (G 2) 100 t] ++ Z) → va_S A s.heap H locs → W p l e (hq_rm 0 0 0) s m args below meth c H locs 0 0 Q (F0 m 2 ls []) := by
    intro kz
    induction kz using Nat.strongRecOn with
    | ind kz ih =>
      intro a ls H locs hkz ha hF hl hP hD hS
      subst hkz
      refine lv_iload_n hx hb d_Line_skipSpaces_2 rfl (lv_at hl 2 rfl) ?_
      refine lv_iload_n hx hb d_Line_skipSpaces_3 rfl (lv_at hl 1 rfl) ?_
      refine lv_icmp_ge (tgt := 24) hx hb d_Line_skipSpaces_4 rfl (fun c4 => ?_) (fun c4 => ?_)
      · -- 4 taken
        have c4 : j ≤ a := (nI_leI (a := j) (b := a) (by omega) (by omega)).mp c4
        refine lv_iload_n hx hb d_Line_skipSpaces_24 rfl (lv_at hl 2 rfl) ?_
        exact hret (nI a) () H locs 25 ls d_Line_skipSpaces_25 (by first | rw [hF, hq_skp_end (t := t) (c := 32) (a := a) (j := j) (by omega)] | rw [hF, hq_skp_no (t := t) (c := 32) (a := a) (j := j) (by omega) c15]) hP hD hS
      · -- 4 not taken
        have c4 : ¬ j ≤ a := fun h => c4 ((nI_leI (a := j) (b := a) (by omega) (by omega)).mpr h)
        refine lv_aload_n hx hb d_Line_skipSpaces_7 rfl (lv_at hl 0 rfl) ?_
        refine va_get (D := D) (ci := 2) (v := .ref ta) (C := R_Line) (T := F_Line) (N := 7) hx hb hts uw_Line hown hK hP 0 rfl rfl 0 (by decide) (hts _ fl_Line_9) (fun _ h9 => h9) rfl d_Line_skipSpaces_8 ?_
        refine lv_iload_n hx hb d_Line_skipSpaces_11 rfl (lv_at hl 2 rfl) ?_
        refine hq_cald (j := a) hx hb hK hP 1 rfl (by omega) (by omega) d_Line_skipSpaces_12 ?_
        refine lv_bipush (v := 32) hx hb d_Line_skipSpaces_13 (by decide) ?_
        refine lv_icmp_ne (tgt := 24) hx hb d_Line_skipSpaces_15 rfl (fun c15 => ?_) (fun c15 => ?_)
        · -- 15 taken
          have c15 : ¬ (t a) = 32 := c15
          refine lv_iload_n hx hb d_Line_skipSpaces_24 rfl (lv_at hl 2 rfl) ?_
          exact hret (nI a) () H locs 25 ls d_Line_skipSpaces_25 (by first | rw [hF, hq_skp_end (t := t) (c := 32) (a := a) (j := j) (by omega)] | rw [hF, hq_skp_no (t := t) (c := 32) (a := a) (j := j) (by omega) c15]) hP hD hS
        · -- 15 not taken
          have c15 : (t a) = 32 := c15
          refine lv_iinc (nL := 4) (k := 2) (v := nI (a + 1)) (lv' := [(3, .int (nI (a + 1))), (0, .ref h), (2, .int (nI j))]) hx hb d_Line_skipSpaces_18 hl rfl (nI_add a 1) (by decide) rfl (fun ls hl => ?_)
          refine lv_goto (tgt := 2) hx hb d_Line_skipSpaces_21 rfl ?_
          exact ih _ (by omega) (a + 1) ls H locs rfl (by first | assumption | omega) (by first | rfl | exact hF.trans (hq_skp_yes (by omega) c15)) (lv_sub hl [1, 2, 0] rfl) hP hD hS
  exact cut2 _ i ls H locs rfl (by first | assumption | omega) (by first | rfl | exact hF.trans (hq_skp_yes (by omega) c15)) (lv_sub hl [1, 3, 0] rfl) hP hD hS
theorem d_Line_clear_0 : decode b_Line_clear 0 = .ok (.aload_n 0, 1) := by decide +kernel
theorem d_Line_clear_1 : decode b_Line_clear 1 = .ok (.iconst 0, 1) := by decide +kernel
theorem d_Line_clear_2 : decode b_Line_clear 2 = .ok (.putfield 15, 3) := by decide +kernel
theorem d_Line_clear_5 : decode b_Line_clear 5 = .ok (.return_, 1) := by decide +kernel
set_option maxHeartbeats 4000000 in
set_option maxRecDepth 100000 in
theorem c_Line_clear (l : Launch) (D : va_G) (G : Nat → ClassId) (A : Nat → Prop) (Z : va_W) (h : Nat) (ta : Nat) (t : Nat → Int32) (len : Nat) (ne : Int32) (pn : Int32) (lt : Int32) (sd : Int32) (fc : Int32) : hq_FV l D G A y_Line_clear b_Line_clear 1 0 [.ref h] ([hq_o2 h ta (nI len) ne pn lt sd fc, hq_ai ta (G 2) 100 t] ++ Z) ([hq_o2 h ta (nI 0) ne pn lt sd fc, hq_ai ta (G 2) 100 t] ++ Z) := by
  refine hq_bV (by decide) (Nat.le_of_ble_eq_true rfl) ?_
  intro p e s m args below meth c Q hx hb hml hts hown hA hK hN hin hret ls H locs hl hP hD hS
  have hown : s.vm.findClass "HashedLearner$Line" = some m.cls := hown
  have hl : lv_has ls 1 [(0, .ref h)] := hl
  refine lv_aload_n hx hb d_Line_clear_0 rfl (lv_at hl 0 rfl) ?_
  refine lv_iconst (v := 0) hx hb d_Line_clear_1 (by decide) ?_
  refine va_put (D := D) (ci := 2) (v := .int 0) (ty := .int) (C := R_Line) (T := F_Line) (N := 7) hx hb hts uw_Line t_Line t_Line_ok n_Line hown hK hP hD hS 0 rfl rfl 1 (by decide) (hts _ fl_Line_15) (fun _ h9 => h9) rfl (by decide +kernel) (rfl) (rfl) (Nat.le_of_ble_eq_true rfl) d_Line_clear_2 (fun H locs hP hD hS => ?_)
  have hP : va_P D hq_cl ([hq_o2 h ta 0 ne pn lt sd fc, hq_ai ta (G 2) 100 t] ++ Z) H := hP
  have hD : va_D A ([hq_o2 h ta 0 ne pn lt sd fc, hq_ai ta (G 2) 100 t] ++ Z) := hD
  have e9_0 : (nI 0) = 0 := by rfl
  have hP : va_P D hq_cl ([hq_o2 h ta (nI 0) ne pn lt sd fc, hq_ai ta (G 2) 100 t] ++ Z) H := by rw [e9_0]; exact hP
  have hD : va_D A ([hq_o2 h ta (nI 0) ne pn lt sd fc, hq_ai ta (G 2) 100 t] ++ Z) := by rw [e9_0]; exact hD
  exact hret () H locs 5 ls d_Line_clear_5 (trivial) hP hD hS
