theorem d_Example_init_0 : decode b_Example_init 0 = .ok (.aload_n 0, 1) := by decide +kernel
theorem d_Example_init_1 : decode b_Example_init 1 = .ok (.invokespecial 3, 3) := by decide +kernel
theorem d_Example_init_4 : decode b_Example_init 4 = .ok (.aload_n 0, 1) := by decide +kernel
theorem d_Example_init_5 : decode b_Example_init 5 = .ok (.bipush (12), 2) := by decide +kernel
theorem d_Example_init_7 : decode b_Example_init 7 = .ok (.newarray .int, 2) := by decide +kernel
theorem d_Example_init_9 : decode b_Example_init 9 = .ok (.putfield 9, 3) := by decide +kernel
theorem d_Example_init_12 : decode b_Example_init 12 = .ok (.aload_n 0, 1) := by decide +kernel
theorem d_Example_init_13 : decode b_Example_init 13 = .ok (.bipush (12), 2) := by decide +kernel
theorem d_Example_init_15 : decode b_Example_init 15 = .ok (.newarray .int, 2) := by decide +kernel
theorem d_Example_init_17 : decode b_Example_init 17 = .ok (.putfield 15, 3) := by decide +kernel
theorem d_Example_init_20 : decode b_Example_init 20 = .ok (.aload_n 0, 1) := by decide +kernel
theorem d_Example_init_21 : decode b_Example_init 21 = .ok (.bipush (12), 2) := by decide +kernel
theorem d_Example_init_23 : decode b_Example_init 23 = .ok (.newarray .char, 2) := by decide +kernel
theorem d_Example_init_25 : decode b_Example_init 25 = .ok (.putfield 18, 3) := by decide +kernel
theorem d_Example_init_28 : decode b_Example_init 28 = .ok (.aload_n 0, 1) := by decide +kernel
theorem d_Example_init_29 : decode b_Example_init 29 = .ok (.iconst 0, 1) := by decide +kernel
theorem d_Example_init_30 : decode b_Example_init 30 = .ok (.putfield 22, 3) := by decide +kernel
theorem d_Example_init_33 : decode b_Example_init 33 = .ok (.aload_n 0, 1) := by decide +kernel
theorem d_Example_init_34 : decode b_Example_init 34 = .ok (.iconst 0, 1) := by decide +kernel
theorem d_Example_init_35 : decode b_Example_init 35 = .ok (.putfield 26, 3) := by decide +kernel
theorem d_Example_init_38 : decode b_Example_init 38 = .ok (.aload_n 0, 1) := by decide +kernel
theorem d_Example_init_39 : decode b_Example_init 39 = .ok (.iconst 0, 1) := by decide +kernel
theorem d_Example_init_40 : decode b_Example_init 40 = .ok (.putfield 30, 3) := by decide +kernel
theorem d_Example_init_43 : decode b_Example_init 43 = .ok (.aload_n 0, 1) := by decide +kernel
theorem d_Example_init_44 : decode b_Example_init 44 = .ok (.iconst 1, 1) := by decide +kernel
theorem d_Example_init_45 : decode b_Example_init 45 = .ok (.putfield 33, 3) := by decide +kernel
theorem d_Example_init_48 : decode b_Example_init 48 = .ok (.return_, 1) := by decide +kernel
set_option maxHeartbeats 4000000 in
set_option maxRecDepth 100000 in
theorem c_Example_init (l : Launch) (D : va_G) (G : Nat → ClassId) (A : Nat → Prop) (Z : va_W) (h : Nat) : hq_MV l D G A y_Example_init b_Example_init 1 1 3 36 [.ref h] ([(h, .inr (1, [.null, .null, .null, .int 0, .int 0, .int 0, .int 0]))] ++ Z) (fun (u : Nat × Nat × Nat) => True) (fun (u : Nat × Nat × Nat) => [hq_o1 h u.1 u.2.1 u.2.2 0 0 0 1, hq_ai u.1 (G 0) 12 (fun _ => (0 : Int32)), hq_ai u.2.1 (G 0) 12 (fun _ => (0 : Int32)), hq_ai u.2.2 (G 2) 12 (fun _ => (0 : Int32))] ++ Z) := by
  refine hq_bV (by decide) (Nat.le_of_ble_eq_true rfl) ?_
  intro p e s m args below meth c Q hx hb hml hts hown hA hK hN hin hret ls H locs hl hP hD hS
  have hown : s.vm.findClass "HashedLearner$Example" = some m.cls := hown
  have hl : lv_has ls 1 [(0, .ref h)] := hl
  refine lv_aload_n hx hb d_Example_init_0 rfl (lv_at hl 0 rfl) ?_
  refine W.objInit hx hb hown (hts _ ob_Example) (hts _ ob_i) (hts _ ob_c) rfl (by rw [hml]; exact hl.1) rfl d_Example_init_1 (Nat.le_of_ble_eq_true rfl) (Nat.le_of_ble_eq_true rfl) ?_
  refine W.eq (g2 := F0 m 4 ls []) rfl ?_
  refine lv_aload_n hx hb d_Example_init_4 rfl (lv_at hl 0 rfl) ?_
  refine lv_bipush (v := nI 12) hx hb d_Example_init_5 (by decide) ?_
  refine hq_newa (atype := .int) (ty := .int) (g := G 0) (n := 12) (a0 := (12, .inl (fun _ => (0 : Int32)))) hx hb (hts _ ac_int) rfl hK hP hD hS hA 0 rfl (fun _ => rfl) (by decide) (by decide) (by decide) (by decide) d_Example_init_7 (fun q7 H hP hD hS => ?_)
  have hP : va_P D hq_cl ([hq_ai q7 (G 0) 12 (fun _ => (0 : Int32)), (h, .inr (1, [.null, .null, .null, .int 0, .int 0, .int 0, .int 0]))] ++ Z) H := hP
  have hD : va_D A ([hq_ai q7 (G 0) 12 (fun _ => (0 : Int32)), (h, .inr (1, [.null, .null, .null, .int 0, .int 0, .int 0, .int 0]))] ++ Z) := hD
  refine va_putF (D := D) (ci := 1) (v := .ref q7) (ty := (.array .int)) (C := R_Example) (T := F_Example) (N := 7) hx hb hts uw_Example t_Example t_Example_ok n_Example hown hK hP hD hS 1 rfl rfl 0 (by decide) (hts _ fl_Example_9) (fun _ h9 => h9) rfl hin rfl (by decide +kernel) (rfl) (rfl) (Nat.le_of_ble_eq_true rfl) d_Example_init_9 (fun H locs hP hD hS => ?_)
  have hP : va_P D hq_cl ([hq_ai q7 (G 0) 12 (fun _ => (0 : Int32)), (h, .inr (1, [.ref q7, .null, .null, .int 0, .int 0, .int 0, .int 0]))] ++ Z) H := hP
  have hD : va_D A ([hq_ai q7 (G 0) 12 (fun _ => (0 : Int32)), (h, .inr (1, [.ref q7, .null, .null, .int 0, .int 0, .int 0, .int 0]))] ++ Z) := hD
  refine lv_aload_n hx hb d_Example_init_12 rfl (lv_at hl 0 rfl) ?_
  refine lv_bipush (v := nI 12) hx hb d_Example_init_13 (by decide) ?_
  refine hq_newa (atype := .int) (ty := .int) (g := G 0) (n := 12) (a0 := (12, .inl (fun _ => (0 : Int32)))) hx hb (hts _ ac_int) rfl hK hP hD hS hA 0 rfl (fun _ => rfl) (by decide) (by decide) (by decide) (by decide) d_Example_init_15 (fun q15 H hP hD hS => ?_)
  have hP : va_P D hq_cl ([hq_ai q15 (G 0) 12 (fun _ => (0 : Int32)), hq_ai q7 (G 0) 12 (fun _ => (0 : Int32)), (h, .inr (1, [.ref q7, .null, .null, .int 0, .int 0, .int 0, .int 0]))] ++ Z) H := hP
  have hD : va_D A ([hq_ai q15 (G 0) 12 (fun _ => (0 : Int32)), hq_ai q7 (G 0) 12 (fun _ => (0 : Int32)), (h, .inr (1, [.ref q7, .null, .null, .int 0, .int 0, .int 0, .int 0]))] ++ Z) := hD
  refine va_putF (D := D) (ci := 1) (v := .ref q15) (ty := (.array .int)) (C := R_Example) (T := F_Example) (N := 7) hx hb hts uw_Example t_Example t_Example_ok n_Example hown hK hP hD hS 2 rfl rfl 1 (by decide) (hts _ fl_Example_15) (fun _ h9 => h9) rfl hin rfl (by decide +kernel) (rfl) (rfl) (Nat.le_of_ble_eq_true rfl) d_Example_init_17 (fun H locs hP hD hS => ?_)
  have hP : va_P D hq_cl ([hq_ai q15 (G 0) 12 (fun _ => (0 : Int32)), hq_ai q7 (G 0) 12 (fun _ => (0 : Int32)), (h, .inr (1, [.ref q7, .ref q15, .null, .int 0, .int 0, .int 0, .int 0]))] ++ Z) H := hP
  have hD : va_D A ([hq_ai q15 (G 0) 12 (fun _ => (0 : Int32)), hq_ai q7 (G 0) 12 (fun _ => (0 : Int32)), (h, .inr (1, [.ref q7, .ref q15, .null, .int 0, .int 0, .int 0, .int 0]))] ++ Z) := hD
  refine lv_aload_n hx hb d_Example_init_20 rfl (lv_at hl 0 rfl) ?_
  refine lv_bipush (v := nI 12) hx hb d_Example_init_21 (by decide) ?_
  refine hq_newa (atype := .char) (ty := .char) (g := G 2) (n := 12) (a0 := (12, .inl (fun _ => (0 : Int32)))) hx hb (hts _ ac_char) rfl hK hP hD hS hA 2 rfl (fun _ => rfl) (by decide) (by decide) (by decide) (by decide) d_Example_init_23 (fun q23 H hP hD hS => ?_)
  have hP : va_P D hq_cl ([hq_ai q23 (G 2) 12 (fun _ => (0 : Int32)), hq_ai q15 (G 0) 12 (fun _ => (0 : Int32)), hq_ai q7 (G 0) 12 (fun _ => (0 : Int32)), (h, .inr (1, [.ref q7, .ref q15, .null, .int 0, .int 0, .int 0, .int 0]))] ++ Z) H := hP
  have hD : va_D A ([hq_ai q23 (G 2) 12 (fun _ => (0 : Int32)), hq_ai q15 (G 0) 12 (fun _ => (0 : Int32)), hq_ai q7 (G 0) 12 (fun _ => (0 : Int32)), (h, .inr (1, [.ref q7, .ref q15, .null, .int 0, .int 0, .int 0, .int 0]))] ++ Z) := hD
  refine va_putF (D := D) (ci := 1) (v := .ref q23) (ty := (.array .char)) (C := R_Example) (T := F_Example) (N := 7) hx hb hts uw_Example t_Example t_Example_ok n_Example hown hK hP hD hS 3 rfl rfl 2 (by decide) (hts _ fl_Example_18) (fun _ h9 => h9) rfl hin rfl (by decide +kernel) (rfl) (rfl) (Nat.le_of_ble_eq_true rfl) d_Example_init_25 (fun H locs hP hD hS => ?_)
  have hP : va_P D hq_cl ([hq_ai q23 (G 2) 12 (fun _ => (0 : Int32)), hq_ai q15 (G 0) 12 (fun _ => (0 : Int32)), hq_ai q7 (G 0) 12 (fun _ => (0 : Int32)), hq_o1 h q7 q15 q23 0 0 0 0] ++ Z) H := hP
  have hD : va_D A ([hq_ai q23 (G 2) 12 (fun _ => (0 : Int32)), hq_ai q15 (G 0) 12 (fun _ => (0 : Int32)), hq_ai q7 (G 0) 12 (fun _ => (0 : Int32)), hq_o1 h q7 q15 q23 0 0 0 0] ++ Z) := hD
  refine lv_aload_n hx hb d_Example_init_28 rfl (lv_at hl 0 rfl) ?_
  refine lv_iconst (v := 0) hx hb d_Example_init_29 (by decide) ?_
  refine va_put (D := D) (ci := 1) (v := .int 0) (ty := .int) (C := R_Example) (T := F_Example) (N := 7) hx hb hts uw_Example t_Example t_Example_ok n_Example hown hK hP hD hS 3 rfl rfl 3 (by decide) (hts _ fl_Example_22) (fun _ h9 => h9) rfl (by decide +kernel) (rfl) (rfl) (Nat.le_of_ble_eq_true rfl) d_Example_init_30 (fun H locs hP hD hS => ?_)
  have hP : va_P D hq_cl ([hq_ai q23 (G 2) 12 (fun _ => (0 : Int32)), hq_ai q15 (G 0) 12 (fun _ => (0 : Int32)), hq_ai q7 (G 0) 12 (fun _ => (0 : Int32)), hq_o1 h q7 q15 q23 0 0 0 0] ++ Z) H := hP
  have hD : va_D A ([hq_ai q23 (G 2) 12 (fun _ => (0 : Int32)), hq_ai q15 (G 0) 12 (fun _ => (0 : Int32)), hq_ai q7 (G 0) 12 (fun _ => (0 : Int32)), hq_o1 h q7 q15 q23 0 0 0 0] ++ Z) := hD
  refine lv_aload_n hx hb d_Example_init_33 rfl (lv_at hl 0 rfl) ?_
  refine lv_iconst (v := 0) hx hb d_Example_init_34 (by decide) ?_
  refine va_put (D := D) (ci := 1) (v := .int 0) (ty := .boolean) (C := R_Example) (T := F_Example) (N := 7) hx hb hts uw_Example t_Example t_Example_ok n_Example hown hK hP hD hS 3 rfl rfl 4 (by decide) (hts _ fl_Example_26) (fun _ h9 => h9) rfl (by decide +kernel) (by decide) (by decide) (Nat.le_of_ble_eq_true rfl) d_Example_init_35 (fun H locs hP hD hS => ?_)
  have hP : va_P D hq_cl ([hq_ai q23 (G 2) 12 (fun _ => (0 : Int32)), hq_ai q15 (G 0) 12 (fun _ => (0 : Int32)), hq_ai q7 (G 0) 12 (fun _ => (0 : Int32)), hq_o1 h q7 q15 q23 0 0 0 0] ++ Z) H := hP
  have hD : va_D A ([hq_ai q23 (G 2) 12 (fun _ => (0 : Int32)), hq_ai q15 (G 0) 12 (fun _ => (0 : Int32)), hq_ai q7 (G 0) 12 (fun _ => (0 : Int32)), hq_o1 h q7 q15 q23 0 0 0 0] ++ Z) := hD
  refine lv_aload_n hx hb d_Example_init_38 rfl (lv_at hl 0 rfl) ?_
  refine lv_iconst (v := 0) hx hb d_Example_init_39 (by decide) ?_
  refine va_put (D := D) (ci := 1) (v := .int 0) (ty := .int) (C := R_Example) (T := F_Example) (N := 7) hx hb hts uw_Example t_Example t_Example_ok n_Example hown hK hP hD hS 3 rfl rfl 5 (by decide) (hts _ fl_Example_30) (fun _ h9 => h9) rfl (by decide +kernel) (rfl) (rfl) (Nat.le_of_ble_eq_true rfl) d_Example_init_40 (fun H locs hP hD hS => ?_)
  have hP : va_P D hq_cl ([hq_ai q23 (G 2) 12 (fun _ => (0 : Int32)), hq_ai q15 (G 0) 12 (fun _ => (0 : Int32)), hq_ai q7 (G 0) 12 (fun _ => (0 : Int32)), hq_o1 h q7 q15 q23 0 0 0 0] ++ Z) H := hP
  have hD : va_D A ([hq_ai q23 (G 2) 12 (fun _ => (0 : Int32)), hq_ai q15 (G 0) 12 (fun _ => (0 : Int32)), hq_ai q7 (G 0) 12 (fun _ => (0 : Int32)), hq_o1 h q7 q15 q23 0 0 0 0] ++ Z) := hD
  refine lv_aload_n hx hb d_Example_init_43 rfl (lv_at hl 0 rfl) ?_
  refine lv_iconst (v := 1) hx hb d_Example_init_44 (by decide) ?_
  refine va_put (D := D) (ci := 1) (v := .int 1) (ty := .int) (C := R_Example) (T := F_Example) (N := 7) hx hb hts uw_Example t_Example t_Example_ok n_Example hown hK hP hD hS 3 rfl rfl 6 (by decide) (hts _ fl_Example_33) (fun _ h9 => h9) rfl (by decide +kernel) (rfl) (rfl) (Nat.le_of_ble_eq_true rfl) d_Example_init_45 (fun H locs hP hD hS => ?_)
  have hP : va_P D hq_cl ([hq_ai q23 (G 2) 12 (fun _ => (0 : Int32)), hq_ai q15 (G 0) 12 (fun _ => (0 : Int32)), hq_ai q7 (G 0) 12 (fun _ => (0 : Int32)), hq_o1 h q7 q15 q23 0 0 0 1] ++ Z) H := hP
  have hD : va_D A ([hq_ai q23 (G 2) 12 (fun _ => (0 : Int32)), hq_ai q15 (G 0) 12 (fun _ => (0 : Int32)), hq_ai q7 (G 0) 12 (fun _ => (0 : Int32)), hq_o1 h q7 q15 q23 0 0 0 1] ++ Z) := hD
  have hP := va_P.part (cx := [hq_o1 h q7 q15 q23 0 0 0 1, hq_ai q7 (G 0) 12 (fun _ => (0 : Int32)), hq_ai q15 (G 0) 12 (fun _ => (0 : Int32)), hq_ai q23 (G 2) 12 (fun _ => (0 : Int32))]) hP [3, 2, 1, 0] rfl
  have hD := va_D.part (cx := [hq_o1 h q7 q15 q23 0 0 0 1, hq_ai q7 (G 0) 12 (fun _ => (0 : Int32)), hq_ai q15 (G 0) 12 (fun _ => (0 : Int32)), hq_ai q23 (G 2) 12 (fun _ => (0 : Int32))]) hD [3, 2, 1, 0] (by decide) rfl
  refine W.widen (k := 3) (n := 36) (by decide) (by decide) ?_
  exact hret (q7, q15, q23) H locs 48 ls d_Example_init_48 (trivial) hP hD hS
