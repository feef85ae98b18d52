theorem d_Line_init_0 : decode b_Line_init 0 = .ok (.aload_n 0, 1) := by decide +kernel
theorem d_Line_init_1 : decode b_Line_init 1 = .ok (.invokespecial 3, 3) := by decide +kernel
theorem d_Line_init_4 : decode b_Line_init 4 = .ok (.aload_n 0, 1) := by decide +kernel
theorem d_Line_init_5 : decode b_Line_init 5 = .ok (.bipush (100), 2) := by decide +kernel
theorem d_Line_init_7 : decode b_Line_init 7 = .ok (.newarray .char, 2) := by decide +kernel
theorem d_Line_init_9 : decode b_Line_init 9 = .ok (.putfield 9, 3) := by decide +kernel
theorem d_Line_init_12 : decode b_Line_init 12 = .ok (.aload_n 0, 1) := by decide +kernel
theorem d_Line_init_13 : decode b_Line_init 13 = .ok (.iconst 0, 1) := by decide +kernel
theorem d_Line_init_14 : decode b_Line_init 14 = .ok (.putfield 15, 3) := by decide +kernel
theorem d_Line_init_17 : decode b_Line_init 17 = .ok (.aload_n 0, 1) := by decide +kernel
theorem d_Line_init_18 : decode b_Line_init 18 = .ok (.iconst 0, 1) := by decide +kernel
theorem d_Line_init_19 : decode b_Line_init 19 = .ok (.putfield 19, 3) := by decide +kernel
theorem d_Line_init_22 : decode b_Line_init 22 = .ok (.aload_n 0, 1) := by decide +kernel
theorem d_Line_init_23 : decode b_Line_init 23 = .ok (.bipush (100), 2) := by decide +kernel
theorem d_Line_init_25 : decode b_Line_init 25 = .ok (.putfield 22, 3) := by decide +kernel
theorem d_Line_init_28 : decode b_Line_init 28 = .ok (.aload_n 0, 1) := by decide +kernel
theorem d_Line_init_29 : decode b_Line_init 29 = .ok (.bipush (32), 2) := by decide +kernel
theorem d_Line_init_31 : decode b_Line_init 31 = .ok (.putfield 25, 3) := by decide +kernel
theorem d_Line_init_34 : decode b_Line_init 34 = .ok (.aload_n 0, 1) := by decide +kernel
theorem d_Line_init_35 : decode b_Line_init 35 = .ok (.iconst 0, 1) := by decide +kernel
theorem d_Line_init_36 : decode b_Line_init 36 = .ok (.putfield 29, 3) := by decide +kernel
theorem d_Line_init_39 : decode b_Line_init 39 = .ok (.aload_n 0, 1) := by decide +kernel
theorem d_Line_init_40 : decode b_Line_init 40 = .ok (.bipush (100), 2) := by decide +kernel
theorem d_Line_init_42 : decode b_Line_init 42 = .ok (.putfield 32, 3) := by decide +kernel
theorem d_Line_init_45 : decode b_Line_init 45 = .ok (.return_, 1) := by decide +kernel
set_option maxHeartbeats 4000000 in
set_option maxRecDepth 100000 in
theorem c_Line_init (l : Launch) (D : va_G) (G : Nat → ClassId) (A : Nat → Prop) (Z : va_W) (h : Nat) : hq_MV l D G A y_Line_init b_Line_init 1 1 1 100 [.ref h] ([(h, .inr (2, [.null, .int 0, .int 0, .int 0, .int 0, .int 0, .int 0]))] ++ Z) (fun (u : Nat) => True) (fun (u : Nat) => [hq_o2 h u 0 0 100 32 0 100, hq_ai u (G 2) 100 (fun _ => (0 : Int32))] ++ Z) := by
  refine hq_bV (by decide) (Nat.le_of_ble_eq_true rfl) ?_
  intro p e s m args below meth c Q hx hb hml hts hown hA hK hN hin hret ls H locs hl hP hD hS
  have hown : s.vm.findClass "HashedLearner$Line" = some m.cls := hown
  have hl : lv_has ls 1 [(0, .ref h)] := hl
  refine lv_aload_n hx hb d_Line_init_0 rfl (lv_at hl 0 rfl) ?_
  refine W.objInit hx hb hown (hts _ ob_Line) (hts _ ob_i) (hts _ ob_c) rfl (by rw [hml]; exact hl.1) rfl d_Line_init_1 (Nat.le_of_ble_eq_true rfl) (Nat.le_of_ble_eq_true rfl) ?_
  refine W.eq (g2 := F0 m 4 ls []) rfl ?_
  refine lv_aload_n hx hb d_Line_init_4 rfl (lv_at hl 0 rfl) ?_
  refine lv_bipush (v := nI 100) hx hb d_Line_init_5 (by decide) ?_
  refine hq_newa (atype := .char) (ty := .char) (g := G 2) (n := 100) (a0 := (100, .inl (fun _ => (0 : Int32)))) hx hb (hts _ ac_char) rfl hK hP hD hS hA 2 rfl (fun _ => rfl) (by decide) (by decide) (by decide) (by decide) d_Line_init_7 (fun q7 H hP hD hS => ?_)
  have hP : va_P D hq_cl ([hq_ai q7 (G 2) 100 (fun _ => (0 : Int32)), (h, .inr (2, [.null, .int 0, .int 0, .int 0, .int 0, .int 0, .int 0]))] ++ Z) H := hP
  have hD : va_D A ([hq_ai q7 (G 2) 100 (fun _ => (0 : Int32)), (h, .inr (2, [.null, .int 0, .int 0, .int 0, .int 0, .int 0, .int 0]))] ++ Z) := hD
  refine va_putF (D := D) (ci := 2) (v := .ref q7) (ty := (.array .char)) (C := R_Line) (T := F_Line) (N := 7) hx hb hts uw_Line t_Line t_Line_ok n_Line hown hK hP hD hS 1 rfl rfl 0 (by decide) (hts _ fl_Line_9) (fun _ h9 => h9) rfl hin rfl (by decide +kernel) (rfl) (rfl) (Nat.le_of_ble_eq_true rfl) d_Line_init_9 (fun H locs hP hD hS => ?_)
  have hP : va_P D hq_cl ([hq_ai q7 (G 2) 100 (fun _ => (0 : Int32)), hq_o2 h q7 0 0 0 0 0 0] ++ Z) H := hP
  have hD : va_D A ([hq_ai q7 (G 2) 100 (fun _ => (0 : Int32)), hq_o2 h q7 0 0 0 0 0 0] ++ Z) := hD
  refine lv_aload_n hx hb d_Line_init_12 rfl (lv_at hl 0 rfl) ?_
  refine lv_iconst (v := 0) hx hb d_Line_init_13 (by decide) ?_
  refine va_put (D := D) (ci := 2) (v := .int 0) (ty := .int) (C := R_Line) (T := F_Line) (N := 7) hx hb hts uw_Line t_Line t_Line_ok n_Line hown hK hP hD hS 1 rfl rfl 1 (by decide) (hts _ fl_Line_15) (fun _ h9 => h9) rfl (by decide +kernel) (rfl) (rfl) (Nat.le_of_ble_eq_true rfl) d_Line_init_14 (fun H locs hP hD hS => ?_)
  have hP : va_P D hq_cl ([hq_ai q7 (G 2) 100 (fun _ => (0 : Int32)), hq_o2 h q7 0 0 0 0 0 0] ++ Z) H := hP
  have hD : va_D A ([hq_ai q7 (G 2) 100 (fun _ => (0 : Int32)), hq_o2 h q7 0 0 0 0 0 0] ++ Z) := hD
  refine lv_aload_n hx hb d_Line_init_17 rfl (lv_at hl 0 rfl) ?_
  refine lv_iconst (v := 0) hx hb d_Line_init_18 (by decide) ?_
  refine va_put (D := D) (ci := 2) (v := .int 0) (ty := .int) (C := R_Line) (T := F_Line) (N := 7) hx hb hts uw_Line t_Line t_Line_ok n_Line hown hK hP hD hS 1 rfl rfl 2 (by decide) (hts _ fl_Line_19) (fun _ h9 => h9) rfl (by decide +kernel) (rfl) (rfl) (Nat.le_of_ble_eq_true rfl) d_Line_init_19 (fun H locs hP hD hS => ?_)
  have hP : va_P D hq_cl ([hq_ai q7 (G 2) 100 (fun _ => (0 : Int32)), hq_o2 h q7 0 0 0 0 0 0] ++ Z) H := hP
  have hD : va_D A ([hq_ai q7 (G 2) 100 (fun _ => (0 : Int32)), hq_o2 h q7 0 0 0 0 0 0] ++ Z) := hD
  refine lv_aload_n hx hb d_Line_init_22 rfl (lv_at hl 0 rfl) ?_
  refine lv_bipush (v := 100) hx hb d_Line_init_23 (by decide) ?_
  refine va_put (D := D) (ci := 2) (v := .int 100) (ty := .int) (C := R_Line) (T := F_Line) (N := 7) hx hb hts uw_Line t_Line t_Line_ok n_Line hown hK hP hD hS 1 rfl rfl 3 (by decide) (hts _ fl_Line_22) (fun _ h9 => h9) rfl (by decide +kernel) (rfl) (rfl) (Nat.le_of_ble_eq_true rfl) d_Line_init_25 (fun H locs hP hD hS => ?_)
  have hP : va_P D hq_cl ([hq_ai q7 (G 2) 100 (fun _ => (0 : Int32)), hq_o2 h q7 0 0 100 0 0 0] ++ Z) H := hP
  have hD : va_D A ([hq_ai q7 (G 2) 100 (fun _ => (0 : Int32)), hq_o2 h q7 0 0 100 0 0 0] ++ Z) := hD
  refine lv_aload_n hx hb d_Line_init_28 rfl (lv_at hl 0 rfl) ?_
  refine lv_bipush (v := 32) hx hb d_Line_init_29 (by decide) ?_
  refine va_put (D := D) (ci := 2) (v := .int 32) (ty := .char) (C := R_Line) (T := F_Line) (N := 7) hx hb hts uw_Line t_Line t_Line_ok n_Line hown hK hP hD hS 1 rfl rfl 4 (by decide) (hts _ fl_Line_25) (fun _ h9 => h9) rfl (by decide +kernel) (by decide) (by decide) (Nat.le_of_ble_eq_true rfl) d_Line_init_31 (fun H locs hP hD hS => ?_)
  have hP : va_P D hq_cl ([hq_ai q7 (G 2) 100 (fun _ => (0 : Int32)), hq_o2 h q7 0 0 100 32 0 0] ++ Z) H := hP
  have hD : va_D A ([hq_ai q7 (G 2) 100 (fun _ => (0 : Int32)), hq_o2 h q7 0 0 100 32 0 0] ++ Z) := hD
  refine lv_aload_n hx hb d_Line_init_34 rfl (lv_at hl 0 rfl) ?_
  refine lv_iconst (v := 0) hx hb d_Line_init_35 (by decide) ?_
  refine va_put (D := D) (ci := 2) (v := .int 0) (ty := .int) (C := R_Line) (T := F_Line) (N := 7) hx hb hts uw_Line t_Line t_Line_ok n_Line hown hK hP hD hS 1 rfl rfl 5 (by decide) (hts _ fl_Line_29) (fun _ h9 => h9) rfl (by decide +kernel) (rfl) (rfl) (Nat.le_of_ble_eq_true rfl) d_Line_init_36 (fun H locs hP hD hS => ?_)
  have hP : va_P D hq_cl ([hq_ai q7 (G 2) 100 (fun _ => (0 : Int32)), hq_o2 h q7 0 0 100 32 0 0] ++ Z) H := hP
  have hD : va_D A ([hq_ai q7 (G 2) 100 (fun _ => (0 : Int32)), hq_o2 h q7 0 0 100 32 0 0] ++ Z) := hD
  refine lv_aload_n hx hb d_Line_init_39 rfl (lv_at hl 0 rfl) ?_
  refine lv_bipush (v := 100) hx hb d_Line_init_40 (by decide) ?_
  refine va_put (D := D) (ci := 2) (v := .int 100) (ty := .int) (C := R_Line) (T := F_Line) (N := 7) hx hb hts uw_Line t_Line t_Line_ok n_Line hown hK hP hD hS 1 rfl rfl 6 (by decide) (hts _ fl_Line_32) (fun _ h9 => h9) rfl (by decide +kernel) (rfl) (rfl) (Nat.le_of_ble_eq_true rfl) d_Line_init_42 (fun H locs hP hD hS => ?_)
  have hP : va_P D hq_cl ([hq_ai q7 (G 2) 100 (fun _ => (0 : Int32)), hq_o2 h q7 0 0 100 32 0 100] ++ Z) H := hP
  have hD : va_D A ([hq_ai q7 (G 2) 100 (fun _ => (0 : Int32)), hq_o2 h q7 0 0 100 32 0 100] ++ Z) := hD
  have hP := va_P.part (cx := [hq_o2 h q7 0 0 100 32 0 100, hq_ai q7 (G 2) 100 (fun _ => (0 : Int32))]) hP [1, 0] rfl
  have hD := va_D.part (cx := [hq_o2 h q7 0 0 100 32 0 100, hq_ai q7 (G 2) 100 (fun _ => (0 : Int32))]) hD [1, 0] (by decide) rfl
  refine W.widen (k := 1) (n := 100) (by decide) (by decide) ?_
  exact hret (q7) H locs 45 ls d_Line_init_45 (trivial) hP hD hS
