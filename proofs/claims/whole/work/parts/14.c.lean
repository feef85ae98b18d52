theorem d_Tally_count_0 : decode b_Tally_count 0 = .ok (.aload_n 0, 1) := by decide +kernel
theorem d_Tally_count_1 : decode b_Tally_count 1 = .ok (.dup, 1) := by decide +kernel
theorem d_Tally_count_2 : decode b_Tally_count 2 = .ok (.getfield 19, 3) := by decide +kernel
theorem d_Tally_count_5 : decode b_Tally_count 5 = .ok (.lload_n 1, 1) := by decide +kernel
theorem d_Tally_count_6 : decode b_Tally_count 6 = .ok (.iload_n 3, 1) := by decide +kernel
theorem d_Tally_count_7 : decode b_Tally_count 7 = .ok (.i2l, 1) := by decide +kernel
theorem d_Tally_count_8 : decode b_Tally_count 8 = .ok (.lmul, 1) := by decide +kernel
theorem d_Tally_count_9 : decode b_Tally_count 9 = .ok (.ladd, 1) := by decide +kernel
theorem d_Tally_count_10 : decode b_Tally_count 10 = .ok (.putfield 19, 3) := by decide +kernel
theorem d_Tally_count_13 : decode b_Tally_count 13 = .ok (.aload_n 0, 1) := by decide +kernel
theorem d_Tally_count_14 : decode b_Tally_count 14 = .ok (.dup, 1) := by decide +kernel
theorem d_Tally_count_15 : decode b_Tally_count 15 = .ok (.getfield 26, 3) := by decide +kernel
theorem d_Tally_count_18 : decode b_Tally_count 18 = .ok (.lload_n 1, 1) := by decide +kernel
theorem d_Tally_count_19 : decode b_Tally_count 19 = .ok (.iload_n 3, 1) := by decide +kernel
theorem d_Tally_count_20 : decode b_Tally_count 20 = .ok (.i2l, 1) := by decide +kernel
theorem d_Tally_count_21 : decode b_Tally_count 21 = .ok (.lmul, 1) := by decide +kernel
theorem d_Tally_count_22 : decode b_Tally_count 22 = .ok (.ladd, 1) := by decide +kernel
theorem d_Tally_count_23 : decode b_Tally_count 23 = .ok (.putfield 26, 3) := by decide +kernel
theorem d_Tally_count_26 : decode b_Tally_count 26 = .ok (.aload_n 0, 1) := by decide +kernel
theorem d_Tally_count_27 : decode b_Tally_count 27 = .ok (.dup, 1) := by decide +kernel
theorem d_Tally_count_28 : decode b_Tally_count 28 = .ok (.getfield 29, 3) := by decide +kernel
theorem d_Tally_count_31 : decode b_Tally_count 31 = .ok (.iload_n 3, 1) := by decide +kernel
theorem d_Tally_count_32 : decode b_Tally_count 32 = .ok (.i2l, 1) := by decide +kernel
theorem d_Tally_count_33 : decode b_Tally_count 33 = .ok (.ladd, 1) := by decide +kernel
theorem d_Tally_count_34 : decode b_Tally_count 34 = .ok (.putfield 29, 3) := by decide +kernel
theorem d_Tally_count_37 : decode b_Tally_count 37 = .ok (.aload_n 0, 1) := by decide +kernel
theorem d_Tally_count_38 : decode b_Tally_count 38 = .ok (.dup, 1) := by decide +kernel
theorem d_Tally_count_39 : decode b_Tally_count 39 = .ok (.getfield 23, 3) := by decide +kernel
theorem d_Tally_count_42 : decode b_Tally_count 42 = .ok (.iconst 1, 1) := by decide +kernel
theorem d_Tally_count_43 : decode b_Tally_count 43 = .ok (.iadd, 1) := by decide +kernel
theorem d_Tally_count_44 : decode b_Tally_count 44 = .ok (.putfield 23, 3) := by decide +kernel
theorem d_Tally_count_47 : decode b_Tally_count 47 = .ok (.aload_n 0, 1) := by decide +kernel
theorem d_Tally_count_48 : decode b_Tally_count 48 = .ok (.getfield 23, 3) := by decide +kernel
theorem d_Tally_count_51 : decode b_Tally_count 51 = .ok (.invokestatic 32, 3) := by decide +kernel
theorem d_Tally_count_54 : decode b_Tally_count 54 = .ok (.ifCond .eq (16), 3) := by decide +kernel
theorem d_Tally_count_57 : decode b_Tally_count 57 = .ok (.aload_n 0, 1) := by decide +kernel
theorem d_Tally_count_58 : decode b_Tally_count 58 = .ok (.getfield 15, 3) := by decide +kernel
theorem d_Tally_count_61 : decode b_Tally_count 61 = .ok (.bipush (31), 2) := by decide +kernel
theorem d_Tally_count_63 : decode b_Tally_count 63 = .ok (.if_icmp .ge (7), 3) := by decide +kernel
theorem d_Tally_count_66 : decode b_Tally_count 66 = .ok (.aload_n 0, 1) := by decide +kernel
theorem d_Tally_count_67 : decode b_Tally_count 67 = .ok (.invokevirtual 36, 3) := by decide +kernel
theorem d_Tally_count_70 : decode b_Tally_count 70 = .ok (.return_, 1) := by decide +kernel
def f_Tally_count_o1 (rp : Nat → Int64) (rc : Nat) (tt : Int64) (es : Int32) (cs : Int64) (is : Int64) (co : Int64) (im : Int32) : Nat := if (f_Tally_isPowerOfTwo (es + 1)) = true then if 31 ≤ rc then rc else rc + 1 else rc
def f_Tally_count_o4 (rp : Nat → Int64) (rc : Nat) (tt : Int64) (es : Int32) (cs : Int64) (is : Int64) (co : Int64) (im : Int32) : Int64 := if (f_Tally_isPowerOfTwo (es + 1)) = true then if 31 ≤ rc then cs + (co * (Int32.toInt64 im)) else 0 else cs + (co * (Int32.toInt64 im))
def f_Tally_count_o5 (rp : Nat → Int64) (rc : Nat) (tt : Int64) (es : Int32) (cs : Int64) (is : Int64) (co : Int64) (im : Int32) : Int64 := if (f_Tally_isPowerOfTwo (es + 1)) = true then if 31 ≤ rc then is + (Int32.toInt64 im) else 0 else is + (Int32.toInt64 im)
def f_Tally_count_o6 (rp : Nat → Int64) (rc : Nat) (tt : Int64) (es : Int32) (cs : Int64) (is : Int64) (co : Int64) (im : Int32) : Nat → Int64 := if (f_Tally_isPowerOfTwo (es + 1)) = true then if 31 ≤ rc then rp else f_Tally_addReport_o4 rp rc (cs + (co * (Int32.toInt64 im))) (is + (Int32.toInt64 im)) else rp
set_option maxHeartbeats 4000000 in
set_option maxRecDepth 100000 in
theorem c_Tally_count (l : Launch) (D : va_G) (G : Nat → ClassId) (A : Nat → Prop) (Z : va_W) (h : Nat) (ra : Nat) (rp : Nat → Int64) (rc : Nat) (tt : Int64) (es : Int32) (cs : Int64) (is : Int64) (co : Int64) (im : Int32) (hrc : rc ≤ 31) : hq_FV l D G A y_Tally_count b_Tally_count 4 1 [.ref h, .long co, .int im] ([hq_o5 h ra (nI rc) tt es cs is, hq_al ra (G 1) 31 rp] ++ Z) ([hq_o5 h ra (nI (f_Tally_count_o1 rp rc tt es cs is co im)) (tt + (co * (Int32.toInt64 im))) (es + 1) (f_Tally_count_o4 rp rc tt es cs is co im) (f_Tally_count_o5 rp rc tt es cs is co im), hq_al ra (G 1) 31 (f_Tally_count_o6 rp rc tt es cs is co im)] ++ Z) := by
  refine hq_bV (by decide) (Nat.le_of_ble_eq_true rfl) ?_
  intro p e s m args below meth c Q hx hb hml hts hown hA hK hN hin hret ls H locs hl hP hD hS
  have hown : s.vm.findClass "HashedLearner$Tally" = some m.cls := hown
  have hl : lv_has ls 4 [(0, .ref h), (1, .long co), (3, .int im)] := hl
  refine lv_aload_n hx hb d_Tally_count_0 rfl (lv_at hl 0 rfl) ?_
  refine lv_dup hx hb d_Tally_count_1 rfl ?_
  refine va_get (D := D) (ci := 5) (v := .long tt) (C := R_Tally) (T := F_Tally) (N := 6) hx hb hts uw_Tally hown hK hP 0 rfl rfl 2 (by decide) (hts _ fl_Tally_19) (fun _ h9 => h9) rfl d_Tally_count_2 ?_
  refine lv_lload_n hx hb d_Tally_count_5 rfl (lv_at hl 1 rfl) ?_
  refine lv_iload_n hx hb d_Tally_count_6 rfl (lv_at hl 2 rfl) ?_
  refine lv_i2l (v := Int32.toInt64 im) hx hb d_Tally_count_7 rfl ?_
  refine lv_lmul hx hb d_Tally_count_8 ?_
  refine lv_ladd hx hb d_Tally_count_9 ?_
  refine va_put (D := D) (ci := 5) (v := .long (tt + (co * (Int32.toInt64 im)))) (ty := .long) (C := R_Tally) (T := F_Tally) (N := 6) hx hb hts uw_Tally t_Tally t_Tally_ok n_Tally hown hK hP hD hS 0 rfl rfl 2 (by decide) (hts _ fl_Tally_19) (fun _ h9 => h9) rfl (by decide +kernel) (rfl) (rfl) (Nat.le_of_ble_eq_true rfl) d_Tally_count_10 (fun H locs hP hD hS => ?_)
  have hP : va_P D hq_cl ([hq_o5 h ra (nI rc) (tt + (co * (Int32.toInt64 im))) es cs is, hq_al ra (G 1) 31 rp] ++ Z) H := hP
  have hD : va_D A ([hq_o5 h ra (nI rc) (tt + (co * (Int32.toInt64 im))) es cs is, hq_al ra (G 1) 31 rp] ++ Z) := hD
  refine lv_aload_n hx hb d_Tally_count_13 rfl (lv_at hl 0 rfl) ?_
  refine lv_dup hx hb d_Tally_count_14 rfl ?_
  refine va_get (D := D) (ci := 5) (v := .long cs) (C := R_Tally) (T := F_Tally) (N := 6) hx hb hts uw_Tally hown hK hP 0 rfl rfl 4 (by decide) (hts _ fl_Tally_26) (fun _ h9 => h9) rfl d_Tally_count_15 ?_
  refine lv_lload_n hx hb d_Tally_count_18 rfl (lv_at hl 1 rfl) ?_
  refine lv_iload_n hx hb d_Tally_count_19 rfl (lv_at hl 2 rfl) ?_
  refine lv_i2l (v := Int32.toInt64 im) hx hb d_Tally_count_20 rfl ?_
  refine lv_lmul hx hb d_Tally_count_21 ?_
  refine lv_ladd hx hb d_Tally_count_22 ?_
  refine va_put (D := D) (ci := 5) (v := .long (cs + (co * (Int32.toInt64 im)))) (ty := .long) (C := R_Tally) (T := F_Tally) (N := 6) hx hb hts uw_Tally t_Tally t_Tally_ok n_Tally hown hK hP hD hS 0 rfl rfl 4 (by decide) (hts _ fl_Tally_26) (fun _ h9 => h9) rfl (by decide +kernel) (rfl) (rfl) (Nat.le_of_ble_eq_true rfl) d_Tally_count_23 (fun H locs hP hD hS => ?_)
  have hP : va_P D hq_cl ([hq_o5 h ra (nI rc) (tt + (co * (Int32.toInt64 im))) es (cs + (co * (Int32.toInt64 im))) is, hq_al ra (G 1) 31 rp] ++ Z) H := hP
  have hD : va_D A ([hq_o5 h ra (nI rc) (tt + (co * (Int32.toInt64 im))) es (cs + (co * (Int32.toInt64 im))) is, hq_al ra (G 1) 31 rp] ++ Z) := hD
  refine lv_aload_n hx hb d_Tally_count_26 rfl (lv_at hl 0 rfl) ?_
  refine lv_dup hx hb d_Tally_count_27 rfl ?_
  refine va_get (D := D) (ci := 5) (v := .long is) (C := R_Tally) (T := F_Tally) (N := 6) hx hb hts uw_Tally hown hK hP 0 rfl rfl 5 (by decide) (hts _ fl_Tally_29) (fun _ h9 => h9) rfl d_Tally_count_28 ?_
  refine lv_iload_n hx hb d_Tally_count_31 rfl (lv_at hl 2 rfl) ?_
  refine lv_i2l (v := Int32.toInt64 im) hx hb d_Tally_count_32 rfl ?_
  refine lv_ladd hx hb d_Tally_count_33 ?_
  refine va_put (D := D) (ci := 5) (v := .long (is + (Int32.toInt64 im))) (ty := .long) (C := R_Tally) (T := F_Tally) (N := 6) hx hb hts uw_Tally t_Tally t_Tally_ok n_Tally hown hK hP hD hS 0 rfl rfl 5 (by decide) (hts _ fl_Tally_29) (fun _ h9 => h9) rfl (by decide +kernel) (rfl) (rfl) (Nat.le_of_ble_eq_true rfl) d_Tally_count_34 (fun H locs hP hD hS => ?_)
  have hP : va_P D hq_cl ([hq_o5 h ra (nI rc) (tt + (co * (Int32.toInt64 im))) es (cs + (co * (Int32.toInt64 im))) (is + (Int32.toInt64 im)), hq_al ra (G 1) 31 rp] ++ Z) H := hP
  have hD : va_D A ([hq_o5 h ra (nI rc) (tt + (co * (Int32.toInt64 im))) es (cs + (co * (Int32.toInt64 im))) (is + (Int32.toInt64 im)), hq_al ra (G 1) 31 rp] ++ Z) := hD
  refine lv_aload_n hx hb d_Tally_count_37 rfl (lv_at hl 0 rfl) ?_
  refine lv_dup hx hb d_Tally_count_38 rfl ?_
  refine va_get (D := D) (ci := 5) (v := .int es) (C := R_Tally) (T := F_Tally) (N := 6) hx hb hts uw_Tally hown hK hP 0 rfl rfl 3 (by decide) (hts _ fl_Tally_23) (fun _ h9 => h9) rfl d_Tally_count_39 ?_
  refine lv_iconst (v := 1) hx hb d_Tally_count_42 (by decide) ?_
  refine lv_iadd hx hb d_Tally_count_43 ?_
  refine va_put (D := D) (ci := 5) (v := .int (es + 1)) (ty := .int) (C := R_Tally) (T := F_Tally) (N := 6) hx hb hts uw_Tally t_Tally t_Tally_ok n_Tally hown hK hP hD hS 0 rfl rfl 3 (by decide) (hts _ fl_Tally_23) (fun _ h9 => h9) rfl (by decide +kernel) (rfl) (rfl) (Nat.le_of_ble_eq_true rfl) d_Tally_count_44 (fun H locs hP hD hS => ?_)
  have hP : va_P D hq_cl ([hq_o5 h ra (nI rc) (tt + (co * (Int32.toInt64 im))) (es + 1) (cs + (co * (Int32.toInt64 im))) (is + (Int32.toInt64 im)), hq_al ra (G 1) 31 rp] ++ Z) H := hP
  have hD : va_D A ([hq_o5 h ra (nI rc) (tt + (co * (Int32.toInt64 im))) (es + 1) (cs + (co * (Int32.toInt64 im))) (is + (Int32.toInt64 im)), hq_al ra (G 1) 31 rp] ++ Z) := hD
  refine lv_aload_n hx hb d_Tally_count_47 rfl (lv_at hl 0 rfl) ?_
  refine va_get (D := D) (ci := 5) (v := .int (es + 1)) (C := R_Tally) (T := F_Tally) (N := 6) hx hb hts uw_Tally hown hK hP 0 rfl rfl 3 (by decide) (hts _ fl_Tally_23) (fun _ h9 => h9) rfl d_Tally_count_48 ?_
  have hPc : va_P D hq_cl ([] ++ ([hq_o5 h ra (nI rc) (tt + (co * (Int32.toInt64 im))) (es + 1) (cs + (co * (Int32.toInt64 im))) (is + (Int32.toInt64 im)), hq_al ra (G 1) 31 rp] ++ Z)) H := hP
  have hDc : va_D A ([] ++ ([hq_o5 h ra (nI rc) (tt + (co * (Int32.toInt64 im))) (es + 1) (cs + (co * (Int32.toInt64 im))) (is + (Int32.toInt64 im)), hq_al ra (G 1) 31 rp] ++ Z)) := hD
  refine hq_iF (hq_rS (As := [.int (es + 1)]) (rest := []) hx hb hml hown hts (c_Tally_isPowerOfTwo l D G A ([hq_o5 h ra (nI rc) (tt + (co * (Int32.toInt64 im))) (es + 1) (cs + (co * (Int32.toInt64 im))) (is + (Int32.toInt64 im)), hq_al ra (G 1) 31 rp] ++ Z) (es + 1)) yy_Tally_isPowerOfTwo lk_Tally_32 hA hK hN hS hPc hDc rfl hl.1 rfl (Nat.le_of_ble_eq_true rfl) d_Tally_count_51 ⟨by decide, by decide⟩ ⟨by decide, by decide⟩) hS (fun H locs hP hD hS => ?_)
  have hP : va_P D hq_cl ([hq_o5 h ra (nI rc) (tt + (co * (Int32.toInt64 im))) (es + 1) (cs + (co * (Int32.toInt64 im))) (is + (Int32.toInt64 im)), hq_al ra (G 1) 31 rp] ++ Z) H := hP
  have hD : va_D A ([hq_o5 h ra (nI rc) (tt + (co * (Int32.toInt64 im))) (es + 1) (cs + (co * (Int32.toInt64 im))) (is + (Int32.toInt64 im)), hq_al ra (G 1) 31 rp] ++ Z) := hD
  refine lv_if_eq (tgt := 70) hx hb d_Tally_count_54 rfl (fun c54 => ?_) (fun c54 => ?_)
  · -- 54 taken
    have c54 : ¬ (f_Tally_isPowerOfTwo (es + 1)) = true := by rw [hq_z0.mp c54]; decide
    have hP : va_P D hq_cl ([hq_o5 h ra (nI (f_Tally_count_o1 rp rc tt es cs is co im)) (tt + (co * (Int32.toInt64 im))) (es + 1) (f_Tally_count_o4 rp rc tt es cs is co im) (f_Tally_count_o5 rp rc tt es cs is co im), hq_al ra (G 1) 31 (f_Tally_count_o6 rp rc tt es cs is co im)] ++ Z) H := by rw [show nI (f_Tally_count_o1 rp rc tt es cs is co im) = nI rc by (rw [f_Tally_count_o1, if_neg c54] <;> rfl), show f_Tally_count_o4 rp rc tt es cs is co im = cs + (co * (Int32.toInt64 im)) by (rw [f_Tally_count_o4, if_neg c54] <;> rfl), show f_Tally_count_o5 rp rc tt es cs is co im = is + (Int32.toInt64 im) by (rw [f_Tally_count_o5, if_neg c54] <;> rfl), show f_Tally_count_o6 rp rc tt es cs is co im = rp by (rw [f_Tally_count_o6, if_neg c54] <;> rfl)]; exact hP
    have hD : va_D A ([hq_o5 h ra (nI (f_Tally_count_o1 rp rc tt es cs is co im)) (tt + (co * (Int32.toInt64 im))) (es + 1) (f_Tally_count_o4 rp rc tt es cs is co im) (f_Tally_count_o5 rp rc tt es cs is co im), hq_al ra (G 1) 31 (f_Tally_count_o6 rp rc tt es cs is co im)] ++ Z) := by rw [show nI (f_Tally_count_o1 rp rc tt es cs is co im) = nI rc by (rw [f_Tally_count_o1, if_neg c54] <;> rfl), show f_Tally_count_o4 rp rc tt es cs is co im = cs + (co * (Int32.toInt64 im)) by (rw [f_Tally_count_o4, if_neg c54] <;> rfl), show f_Tally_count_o5 rp rc tt es cs is co im = is + (Int32.toInt64 im) by (rw [f_Tally_count_o5, if_neg c54] <;> rfl), show f_Tally_count_o6 rp rc tt es cs is co im = rp by (rw [f_Tally_count_o6, if_neg c54] <;> rfl)]; exact hD
    exact hret () H locs 70 ls d_Tally_count_70 (trivial) hP hD hS
  · -- 54 not taken
    have c54 : (f_Tally_isPowerOfTwo (es + 1)) = true := hq_zn.mp c54
    refine lv_aload_n hx hb d_Tally_count_57 rfl (lv_at hl 0 rfl) ?_
    refine va_get (D := D) (ci := 5) (v := .int (nI rc)) (C := R_Tally) (T := F_Tally) (N := 6) hx hb hts uw_Tally hown hK hP 0 rfl rfl 1 (by decide) (hts _ fl_Tally_15) (fun _ h9 => h9) rfl d_Tally_count_58 ?_
    refine lv_bipush (v := 31) hx hb d_Tally_count_61 (by decide) ?_
    refine lv_icmp_ge (tgt := 70) hx hb d_Tally_count_63 rfl (fun c63 => ?_) (fun c63 => ?_)
    · -- 63 taken
      have c63 : 31 ≤ rc := (nI_leI (a := 31) (b := rc) (by omega) (by omega)).mp c63
      have hP : va_P D hq_cl ([hq_o5 h ra (nI (f_Tally_count_o1 rp rc tt es cs is co im)) (tt + (co * (Int32.toInt64 im))) (es + 1) (f_Tally_count_o4 rp rc tt es cs is co im) (f_Tally_count_o5 rp rc tt es cs is co im), hq_al ra (G 1) 31 (f_Tally_count_o6 rp rc tt es cs is co im)] ++ Z) H := by rw [show nI (f_Tally_count_o1 rp rc tt es cs is co im) = nI rc by (rw [f_Tally_count_o1, if_pos c54, if_pos c63] <;> rfl), show f_Tally_count_o4 rp rc tt es cs is co im = cs + (co * (Int32.toInt64 im)) by (rw [f_Tally_count_o4, if_pos c54, if_pos c63] <;> rfl), show f_Tally_count_o5 rp rc tt es cs is co im = is + (Int32.toInt64 im) by (rw [f_Tally_count_o5, if_pos c54, if_pos c63] <;> rfl), show f_Tally_count_o6 rp rc tt es cs is co im = rp by (rw [f_Tally_count_o6, if_pos c54, if_pos c63] <;> rfl)]; exact hP
      have hD : va_D A ([hq_o5 h ra (nI (f_Tally_count_o1 rp rc tt es cs is co im)) (tt + (co * (Int32.toInt64 im))) (es + 1) (f_Tally_count_o4 rp rc tt es cs is co im) (f_Tally_count_o5 rp rc tt es cs is co im), hq_al ra (G 1) 31 (f_Tally_count_o6 rp rc tt es cs is co im)] ++ Z) := by rw [show nI (f_Tally_count_o1 rp rc tt es cs is co im) = nI rc by (rw [f_Tally_count_o1, if_pos c54, if_pos c63] <;> rfl), show f_Tally_count_o4 rp rc tt es cs is co im = cs + (co * (Int32.toInt64 im)) by (rw [f_Tally_count_o4, if_pos c54, if_pos c63] <;> rfl), show f_Tally_count_o5 rp rc tt es cs is co im = is + (Int32.toInt64 im) by (rw [f_Tally_count_o5, if_pos c54, if_pos c63] <;> rfl), show f_Tally_count_o6 rp rc tt es cs is co im = rp by (rw [f_Tally_count_o6, if_pos c54, if_pos c63] <;> rfl)]; exact hD
      exact hret () H locs 70 ls d_Tally_count_70 (trivial) hP hD hS
    · -- 63 not taken
      have c63 : ¬ 31 ≤ rc := fun h => c63 ((nI_leI (a := 31) (b := rc) (by omega) (by omega)).mpr h)
      refine lv_aload_n hx hb d_Tally_count_66 rfl (lv_at hl 0 rfl) ?_
      have hPc : va_P D hq_cl ([hq_o5 h ra (nI rc) (tt + (co * (Int32.toInt64 im))) (es + 1) (cs + (co * (Int32.toInt64 im))) (is + (Int32.toInt64 im)), hq_al ra (G 1) 31 rp] ++ Z) H := hP
      have hDc : va_D A ([hq_o5 h ra (nI rc) (tt + (co * (Int32.toInt64 im))) (es + 1) (cs + (co * (Int32.toInt64 im))) (is + (Int32.toInt64 im)), hq_al ra (G 1) 31 rp] ++ Z) := hD
      refine hq_vF (hq_rV (As := []) (rest := []) hx hb hml hown hts (c_Tally_addReport l D G A Z h ra rp rc (tt + (co * (Int32.toInt64 im))) (es + 1) (cs + (co * (Int32.toInt64 im))) (is + (Int32.toInt64 im)) (by first | assumption | omega)) yy_Tally_addReport lk_Tally_36 hA hK hN hS hPc hDc 0 5 rfl rfl rfl hl.1 rfl (Nat.le_of_ble_eq_true rfl) d_Tally_count_67 ⟨by decide, by decide⟩ ⟨by decide, by decide⟩) hS (fun H locs hP hD hS => ?_)
      have hP : va_P D hq_cl ([hq_o5 h ra (nI (rc + 1)) (tt + (co * (Int32.toInt64 im))) (es + 1) 0 0, hq_al ra (G 1) 31 (f_Tally_addReport_o4 rp rc (cs + (co * (Int32.toInt64 im))) (is + (Int32.toInt64 im)))] ++ Z) H := hP
      have hD : va_D A ([hq_o5 h ra (nI (rc + 1)) (tt + (co * (Int32.toInt64 im))) (es + 1) 0 0, hq_al ra (G 1) 31 (f_Tally_addReport_o4 rp rc (cs + (co * (Int32.toInt64 im))) (is + (Int32.toInt64 im)))] ++ Z) := hD
      have hP : va_P D hq_cl ([hq_o5 h ra (nI (f_Tally_count_o1 rp rc tt es cs is co im)) (tt + (co * (Int32.toInt64 im))) (es + 1) (f_Tally_count_o4 rp rc tt es cs is co im) (f_Tally_count_o5 rp rc tt es cs is co im), hq_al ra (G 1) 31 (f_Tally_count_o6 rp rc tt es cs is co im)] ++ Z) H := by rw [show nI (f_Tally_count_o1 rp rc tt es cs is co im) = nI (rc + 1) by (rw [f_Tally_count_o1, if_pos c54, if_neg c63] <;> rfl), show f_Tally_count_o4 rp rc tt es cs is co im = 0 by (rw [f_Tally_count_o4, if_pos c54, if_neg c63] <;> rfl), show f_Tally_count_o5 rp rc tt es cs is co im = 0 by (rw [f_Tally_count_o5, if_pos c54, if_neg c63] <;> rfl), show f_Tally_count_o6 rp rc tt es cs is co im = f_Tally_addReport_o4 rp rc (cs + (co * (Int32.toInt64 im))) (is + (Int32.toInt64 im)) by (rw [f_Tally_count_o6, if_pos c54, if_neg c63] <;> rfl)]; exact hP
      have hD : va_D A ([hq_o5 h ra (nI (f_Tally_count_o1 rp rc tt es cs is co im)) (tt + (co * (Int32.toInt64 im))) (es + 1) (f_Tally_count_o4 rp rc tt es cs is co im) (f_Tally_count_o5 rp rc tt es cs is co im), hq_al ra (G 1) 31 (f_Tally_count_o6 rp rc tt es cs is co im)] ++ Z) := by rw [show nI (f_Tally_count_o1 rp rc tt es cs is co im) = nI (rc + 1) by (rw [f_Tally_count_o1, if_pos c54, if_neg c63] <;> rfl), show f_Tally_count_o4 rp rc tt es cs is co im = 0 by (rw [f_Tally_count_o4, if_pos c54, if_neg c63] <;> rfl), show f_Tally_count_o5 rp rc tt es cs is co im = 0 by (rw [f_Tally_count_o5, if_pos c54, if_neg c63] <;> rfl), show f_Tally_count_o6 rp rc tt es cs is co im = f_Tally_addReport_o4 rp rc (cs + (co * (Int32.toInt64 im))) (is + (Int32.toInt64 im)) by (rw [f_Tally_count_o6, if_pos c54, if_neg c63] <;> rfl)]; exact hD
      exact hret () H locs 70 ls d_Tally_count_70 (trivial) hP hD hS
theorem d_H_root_0 : decode b_H_root 0 = .ok (.lconst 0, 1) := by decide +kernel
theorem d_H_root_1 : decode b_H_root 1 = .ok (.lstore_n 2, 1) := by decide +kernel
theorem d_H_root_2 : decode b_H_root 2 = .ok (.bipush (26), 2) := by decide +kernel
theorem d_H_root_4 : decode b_H_root 4 = .ok (.istore 4, 2) := by decide +kernel
theorem d_H_root_6 : decode b_H_root 6 = .ok (.iload 4, 2) := by decide +kernel
theorem d_H_root_8 : decode b_H_root 8 = .ok (.ifCond .lt (30), 3) := by decide +kernel
theorem d_H_root_11 : decode b_H_root 11 = .ok (.lload_n 2, 1) := by decide +kernel
theorem d_H_root_12 : decode b_H_root 12 = .ok (.lconst 1, 1) := by decide +kernel
theorem d_H_root_13 : decode b_H_root 13 = .ok (.iload 4, 2) := by decide +kernel
theorem d_H_root_15 : decode b_H_root 15 = .ok (.lshl, 1) := by decide +kernel
theorem d_H_root_16 : decode b_H_root 16 = .ok (.ladd, 1) := by decide +kernel
theorem d_H_root_17 : decode b_H_root 17 = .ok (.lstore 5, 2) := by decide +kernel
theorem d_H_root_19 : decode b_H_root 19 = .ok (.lload 5, 2) := by decide +kernel
theorem d_H_root_21 : decode b_H_root 21 = .ok (.lload 5, 2) := by decide +kernel
theorem d_H_root_23 : decode b_H_root 23 = .ok (.lmul, 1) := by decide +kernel
theorem d_H_root_24 : decode b_H_root 24 = .ok (.lload_n 0, 1) := by decide +kernel
theorem d_H_root_25 : decode b_H_root 25 = .ok (.lcmp, 1) := by decide +kernel
theorem d_H_root_26 : decode b_H_root 26 = .ok (.ifCond .gt (6), 3) := by decide +kernel
theorem d_H_root_29 : decode b_H_root 29 = .ok (.lload 5, 2) := by decide +kernel
theorem d_H_root_31 : decode b_H_root 31 = .ok (.lstore_n 2, 1) := by decide +kernel
theorem d_H_root_32 : decode b_H_root 32 = .ok (.iinc 4 (-1), 3) := by decide +kernel
theorem d_H_root_35 : decode b_H_root 35 = .ok (.goto (-29), 3) := by decide +kernel
theorem d_H_root_38 : decode b_H_root 38 = .ok (.lload_n 2, 1) := by decide +kernel
theorem d_H_root_39 : decode b_H_root 39 = .ok (.lreturn, 1) := by decide +kernel
set_option maxHeartbeats 4000000 in
set_option maxRecDepth 100000 in
theorem c_H_root (l : Launch) (D : va_G) (G : Nat → ClassId) (A : Nat → Prop) (Z : va_W) (v : Int64) (hv0 : 0 ≤ v.toInt) (hv1 : v.toInt ≤ 10000000000000000) : hq_FL l D G A y_H_root b_H_root 7 0 [.long v] ([] ++ Z) (hq_root v) ([] ++ Z) := by
  refine hq_bL (by decide) (Nat.le_of_ble_eq_true rfl) ?_
  intro p e s m args below meth c Q hx hb hml hts hown hA hK hN hret ls H locs hl hP hD hS
  have hown : s.vm.findClass "HashedLearner" = some m.cls := hown
  have hl : lv_has ls 7 [(0, .long v)] := hl
  obtain ⟨w, hw, rfl⟩ := hq_l_of hv0 hv1
  refine lv_lconst (v := 0) hx hb d_H_root_0 (by decide) ?_
  refine lv_lstore_n (nL := 7) (lv' := [(2, .long 0), (0, .long (lN w))]) hx hb d_H_root_1 rfl hl (by decide) rfl (fun ls hl => ?_)
  refine lv_bipush (v := (nI 27 - 1)) hx hb d_H_root_2 (by decide) ?_
  refine lv_istore (nL := 7) (lv' := [(4, .int (nI 27 - 1)), (2, .long 0), (0, .long (lN w))]) hx hb d_H_root_4 hl (by decide) rfl (fun ls hl => ?_)
  have cut6 : ∀ (kz : Nat) (b : Nat) (k : Nat) (ls : Array Slot) (H : Heap) (locs : List Loc), b = kz → (b ≤ 27) → (k + 2 ^ b ≤ 134217728) → (k * k ≤ w) → (w < (k + 2 ^ b) * (k + 2 ^ b)) → lv_has ls 7 [(0, .long (lN w)), (2, .long (lN k)), (4, .int (nI b - 1))] → va_P D hq_cl ([] ++ Z) H → va_D A ([] ++ Z) → va_S A s.heap H locs → W p l e (hq_rm 0 0 0) s m args below meth c H locs 0 0 Q (F0 m 6 ls []) := by
    intro kz
    induction kz using Nat.strongRecOn with
    | ind kz ih =>
      intro b k ls H locs hkz hb27 hk h1 h2 hl hP hD hS
      subst hkz
      rcases b with _ | d
      · skip
        refine lv_iload hx hb d_H_root_6 (lv_at hl 2 rfl) ?_
        refine lv_if_lt (tgt := 38) hx hb d_H_root_8 rfl (fun c8 => ?_) (fun c8 => ?_)
        · -- 8 taken
          have c8 : (nI 0 - 1) < 0 := c8
          refine lv_lload_n hx hb d_H_root_38 rfl (lv_at hl 1 rfl) ?_
          exact hret (lN k) () H locs 39 ls d_H_root_39 (hq_root_done h1 h2 hw) hP hD hS
        · -- 8 not taken
          have c8 : ¬ (nI 0 - 1) < 0 := c8
          exact absurd (by decide) c8
      · skip
        rw [nI_pred] at hl
        have hpd : 0 < 2 ^ d := Nat.two_pow_pos d
        have hk9 : k + 2 ^ d + 2 ^ d ≤ 134217728 := by rw [Nat.pow_succ] at hk; omega
        have hk8 : k + 2 ^ d ≤ 134217728 := by omega
        have hsm : (k + 2 ^ d) * (k + 2 ^ d) < 2 ^ 63 := Nat.lt_of_le_of_lt (Nat.mul_le_mul hk8 hk8) (by decide)
        refine lv_iload hx hb d_H_root_6 (lv_at hl 2 rfl) ?_
        refine lv_if_lt (tgt := 38) hx hb d_H_root_8 rfl (fun c8 => ?_) (fun c8 => ?_)
        · -- 8 taken
          have c8 : d < 0 := (nI_ltI (a := d) (b := 0) (by omega) (by omega)).mp c8
          exact absurd c8 (by omega)
        · -- 8 not taken
          have c8 : ¬ d < 0 := fun h => c8 ((nI_ltI (a := d) (b := 0) (by omega) (by omega)).mpr h)
          refine lv_lload_n hx hb d_H_root_11 rfl (lv_at hl 1 rfl) ?_
          refine lv_lconst (v := 1) hx hb d_H_root_12 (by decide) ?_
          refine lv_iload hx hb d_H_root_13 (lv_at hl 2 rfl) ?_
          refine lv_lshl (v := 1 <<< (Int32.toInt64 (nI d) &&& 63)) hx hb d_H_root_15 rfl ?_
          refine hq_topl (x' := lN (2 ^ d)) (hq_shl1 d (by omega)) ?_
          refine lv_ladd hx hb d_H_root_16 ?_
          refine hq_topl (x' := lN (k + 2 ^ d)) (lN_add _ _) ?_
          refine lv_lstore (nL := 7) (lv' := [(5, .long (lN (k + 2 ^ d))), (0, .long (lN w)), (2, .long (lN k)), (4, .int (nI d))]) hx hb d_H_root_17 hl (by decide) rfl (fun ls hl => ?_)
          refine lv_lload hx hb d_H_root_19 (lv_at hl 0 rfl) ?_
          refine lv_lload hx hb d_H_root_21 (lv_at hl 0 rfl) ?_
          refine lv_lmul hx hb d_H_root_23 ?_
          refine hq_topl (x' := lN ((k + 2 ^ d) * (k + 2 ^ d))) (lN_mul _ _) ?_
          refine lv_lload_n hx hb d_H_root_24 rfl (lv_at hl 1 rfl) ?_
          refine W.lcmp hx hb d_H_root_25 ?_
          refine lv_if_gt (tgt := 32) hx hb d_H_root_26 rfl (fun c26 => ?_) (fun c26 => ?_)
          · -- 26 taken
            have c26 : w < ((k + 2 ^ d) * (k + 2 ^ d)) := ((lg_cmp_gt (lN ((k + 2 ^ d) * (k + 2 ^ d))) (lN w)).trans (pk_lLT (a := w) (b := (k + 2 ^ d) * (k + 2 ^ d)) (by omega) (hsm))).mp c26
            refine lv_iinc (nL := 7) (k := 3) (v := nI d - 1) (lv' := [(4, .int (nI d - 1)), (5, .long (lN (k + 2 ^ d))), (0, .long (lN w)), (2, .long (lN k))]) hx hb d_H_root_32 hl rfl (by rw [Int32.sub_eq_add_neg] <;> rfl) (by decide) rfl (fun ls hl => ?_)
            refine lv_goto (tgt := 6) hx hb d_H_root_35 rfl ?_
            exact ih _ (by omega) d k ls H locs rfl (by first | assumption | omega) (hk8) (h1) (c26) (lv_sub hl [2, 3, 0] rfl) hP hD hS
          · -- 26 not taken
            have c26 : ¬ w < ((k + 2 ^ d) * (k + 2 ^ d)) := fun h => c26 (((lg_cmp_gt (lN ((k + 2 ^ d) * (k + 2 ^ d))) (lN w)).trans (pk_lLT (a := w) (b := (k + 2 ^ d) * (k + 2 ^ d)) (by omega) (hsm))).mpr h)
            refine lv_lload hx hb d_H_root_29 (lv_at hl 0 rfl) ?_
            refine lv_lstore_n (nL := 7) (lv' := [(2, .long (lN (k + 2 ^ d))), (5, .long (lN (k + 2 ^ d))), (0, .long (lN w)), (4, .int (nI d))]) hx hb d_H_root_31 rfl hl (by decide) rfl (fun ls hl => ?_)
            refine lv_iinc (nL := 7) (k := 3) (v := nI d - 1) (lv' := [(4, .int (nI d - 1)), (2, .long (lN (k + 2 ^ d))), (5, .long (lN (k + 2 ^ d))), (0, .long (lN w))]) hx hb d_H_root_32 hl rfl (by rw [Int32.sub_eq_add_neg] <;> rfl) (by decide) rfl (fun ls hl => ?_)
            refine lv_goto (tgt := 6) hx hb d_H_root_35 rfl ?_
            exact ih _ (by omega) d (k + 2 ^ d) ls H locs rfl (by first | assumption | omega) (hk9) (Nat.not_lt.mp c26) (hq_root_in h2) (lv_sub hl [3, 1, 0] rfl) hP hD hS
  exact cut6 _ 27 0 ls H locs rfl (by first | assumption | omega) (by decide) (by omega) (Nat.lt_of_le_of_lt hw (by decide)) (lv_sub hl [2, 1, 0] rfl) hP hD hS
