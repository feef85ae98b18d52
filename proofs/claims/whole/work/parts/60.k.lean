theorem d_Crossings_init_0 : decode b_Crossings_init 0 = .ok (.aload_n 0, 1) := by decide +kernel
theorem d_Crossings_init_1 : decode b_Crossings_init 1 = .ok (.invokespecial 3, 3) := by decide +kernel
theorem d_Crossings_init_4 : decode b_Crossings_init 4 = .ok (.aload_n 0, 1) := by decide +kernel
theorem d_Crossings_init_5 : decode b_Crossings_init 5 = .ok (.iconst 3, 1) := by decide +kernel
theorem d_Crossings_init_6 : decode b_Crossings_init 6 = .ok (.newarray .char, 2) := by decide +kernel
theorem d_Crossings_init_8 : decode b_Crossings_init 8 = .ok (.putfield 9, 3) := by decide +kernel
theorem d_Crossings_init_11 : decode b_Crossings_init 11 = .ok (.aload_n 0, 1) := by decide +kernel
theorem d_Crossings_init_12 : decode b_Crossings_init 12 = .ok (.iconst 3, 1) := by decide +kernel
theorem d_Crossings_init_13 : decode b_Crossings_init 13 = .ok (.newarray .char, 2) := by decide +kernel
theorem d_Crossings_init_15 : decode b_Crossings_init 15 = .ok (.putfield 15, 3) := by decide +kernel
theorem d_Crossings_init_18 : decode b_Crossings_init 18 = .ok (.aload_n 0, 1) := by decide +kernel
theorem d_Crossings_init_19 : decode b_Crossings_init 19 = .ok (.iconst 0, 1) := by decide +kernel
theorem d_Crossings_init_20 : decode b_Crossings_init 20 = .ok (.putfield 18, 3) := by decide +kernel
theorem d_Crossings_init_23 : decode b_Crossings_init 23 = .ok (.aload_n 0, 1) := by decide +kernel
theorem d_Crossings_init_24 : decode b_Crossings_init 24 = .ok (.iconst 0, 1) := by decide +kernel
theorem d_Crossings_init_25 : decode b_Crossings_init 25 = .ok (.putfield 22, 3) := by decide +kernel
theorem d_Crossings_init_28 : decode b_Crossings_init 28 = .ok (.return_, 1) := by decide +kernel
set_option maxHeartbeats 4000000 in
set_option maxRecDepth 100000 in
theorem c_Crossings_init (l : Launch) (D : va_G) (G : Nat → ClassId) (A : Nat → Prop) (Z : va_W) (h : Nat) : hq_MV l D G A y_Crossings_init b_Crossings_init 1 1 2 6 [.ref h] ([(h, .inr (0, [.null, .null, .int 0, .int 0]))] ++ Z) (fun (u : Nat × Nat) => True) (fun (u : Nat × Nat) => [hq_o0 h u.1 u.2 0 0, hq_ai u.1 (G 2) 3 (fun _ => (0 : Int32)), hq_ai u.2 (G 2) 3 (fun _ => (0 : Int32))] ++ Z) := by
  refine hq_bV (by decide) (Nat.le_of_ble_eq_true rfl) ?_
  intro p e s m args below meth c Q hx hb hml hts hown hA hK hN hin hret ls H locs hl hP hD hS
  have hown : s.vm.findClass "HashedLearner$Crossings" = some m.cls := hown
  have hl : lv_has ls 1 [(0, .ref h)] := hl
  refine lv_aload_n hx hb d_Crossings_init_0 rfl (lv_at hl 0 rfl) ?_
  refine W.objInit hx hb hown (hts _ ob_Crossings) (hts _ ob_i) (hts _ ob_c) rfl (by rw [hml]; exact hl.1) rfl d_Crossings_init_1 (Nat.le_of_ble_eq_true rfl) (Nat.le_of_ble_eq_true rfl) ?_
  refine W.eq (g2 := F0 m 4 ls []) rfl ?_
  refine lv_aload_n hx hb d_Crossings_init_4 rfl (lv_at hl 0 rfl) ?_
  refine lv_iconst (v := nI 3) hx hb d_Crossings_init_5 (by decide) ?_
  refine hq_newa (atype := .char) (ty := .char) (g := G 2) (n := 3) (a0 := (3, .inl (fun _ => (0 : Int32)))) hx hb (hts _ ac_char) rfl hK hP hD hS hA 2 rfl (fun _ => rfl) (by decide) (by decide) (by decide) (by decide) d_Crossings_init_6 (fun q6 H hP hD hS => ?_)
  have hP : va_P D hq_cl ([hq_ai q6 (G 2) 3 (fun _ => (0 : Int32)), (h, .inr (0, [.null, .null, .int 0, .int 0]))] ++ Z) H := hP
  have hD : va_D A ([hq_ai q6 (G 2) 3 (fun _ => (0 : Int32)), (h, .inr (0, [.null, .null, .int 0, .int 0]))] ++ Z) := hD
  refine va_putF (D := D) (ci := 0) (v := .ref q6) (ty := (.array .char)) (C := R_Crossings) (T := F_Crossings) (N := 4) hx hb hts uw_Crossings t_Crossings t_Crossings_ok n_Crossings hown hK hP hD hS 1 rfl rfl 0 (by decide) (hts _ fl_Crossings_9) (fun _ h9 => h9) rfl hin rfl (by decide +kernel) (rfl) (rfl) (Nat.le_of_ble_eq_true rfl) d_Crossings_init_8 (fun H locs hP hD hS => ?_)
  have hP : va_P D hq_cl ([hq_ai q6 (G 2) 3 (fun _ => (0 : Int32)), (h, .inr (0, [.ref q6, .null, .int 0, .int 0]))] ++ Z) H := hP
  have hD : va_D A ([hq_ai q6 (G 2) 3 (fun _ => (0 : Int32)), (h, .inr (0, [.ref q6, .null, .int 0, .int 0]))] ++ Z) := hD
  refine lv_aload_n hx hb d_Crossings_init_11 rfl (lv_at hl 0 rfl) ?_
  refine lv_iconst (v := nI 3) hx hb d_Crossings_init_12 (by decide) ?_
  refine hq_newa (atype := .char) (ty := .char) (g := G 2) (n := 3) (a0 := (3, .inl (fun _ => (0 : Int32)))) hx hb (hts _ ac_char) rfl hK hP hD hS hA 2 rfl (fun _ => rfl) (by decide) (by decide) (by decide) (by decide) d_Crossings_init_13 (fun q13 H hP hD hS => ?_)
  have hP : va_P D hq_cl ([hq_ai q13 (G 2) 3 (fun _ => (0 : Int32)), hq_ai q6 (G 2) 3 (fun _ => (0 : Int32)), (h, .inr (0, [.ref q6, .null, .int 0, .int 0]))] ++ Z) H := hP
  have hD : va_D A ([hq_ai q13 (G 2) 3 (fun _ => (0 : Int32)), hq_ai q6 (G 2) 3 (fun _ => (0 : Int32)), (h, .inr (0, [.ref q6, .null, .int 0, .int 0]))] ++ Z) := hD
  refine va_putF (D := D) (ci := 0) (v := .ref q13) (ty := (.array .char)) (C := R_Crossings) (T := F_Crossings) (N := 4) hx hb hts uw_Crossings t_Crossings t_Crossings_ok n_Crossings hown hK hP hD hS 2 rfl rfl 1 (by decide) (hts _ fl_Crossings_15) (fun _ h9 => h9) rfl hin rfl (by decide +kernel) (rfl) (rfl) (Nat.le_of_ble_eq_true rfl) d_Crossings_init_15 (fun H locs hP hD hS => ?_)
  have hP : va_P D hq_cl ([hq_ai q13 (G 2) 3 (fun _ => (0 : Int32)), hq_ai q6 (G 2) 3 (fun _ => (0 : Int32)), hq_o0 h q6 q13 0 0] ++ Z) H := hP
  have hD : va_D A ([hq_ai q13 (G 2) 3 (fun _ => (0 : Int32)), hq_ai q6 (G 2) 3 (fun _ => (0 : Int32)), hq_o0 h q6 q13 0 0] ++ Z) := hD
  refine lv_aload_n hx hb d_Crossings_init_18 rfl (lv_at hl 0 rfl) ?_
  refine lv_iconst (v := 0) hx hb d_Crossings_init_19 (by decide) ?_
  refine va_put (D := D) (ci := 0) (v := .int 0) (ty := .int) (C := R_Crossings) (T := F_Crossings) (N := 4) hx hb hts uw_Crossings t_Crossings t_Crossings_ok n_Crossings hown hK hP hD hS 2 rfl rfl 2 (by decide) (hts _ fl_Crossings_18) (fun _ h9 => h9) rfl (by decide +kernel) (rfl) (rfl) (Nat.le_of_ble_eq_true rfl) d_Crossings_init_20 (fun H locs hP hD hS => ?_)
  have hP : va_P D hq_cl ([hq_ai q13 (G 2) 3 (fun _ => (0 : Int32)), hq_ai q6 (G 2) 3 (fun _ => (0 : Int32)), hq_o0 h q6 q13 0 0] ++ Z) H := hP
  have hD : va_D A ([hq_ai q13 (G 2) 3 (fun _ => (0 : Int32)), hq_ai q6 (G 2) 3 (fun _ => (0 : Int32)), hq_o0 h q6 q13 0 0] ++ Z) := hD
  refine lv_aload_n hx hb d_Crossings_init_23 rfl (lv_at hl 0 rfl) ?_
  refine lv_iconst (v := 0) hx hb d_Crossings_init_24 (by decide) ?_
  refine va_put (D := D) (ci := 0) (v := .int 0) (ty := .boolean) (C := R_Crossings) (T := F_Crossings) (N := 4) hx hb hts uw_Crossings t_Crossings t_Crossings_ok n_Crossings hown hK hP hD hS 2 rfl rfl 3 (by decide) (hts _ fl_Crossings_22) (fun _ h9 => h9) rfl (by decide +kernel) (by decide) (by decide) (Nat.le_of_ble_eq_true rfl) d_Crossings_init_25 (fun H locs hP hD hS => ?_)
  have hP : va_P D hq_cl ([hq_ai q13 (G 2) 3 (fun _ => (0 : Int32)), hq_ai q6 (G 2) 3 (fun _ => (0 : Int32)), hq_o0 h q6 q13 0 0] ++ Z) H := hP
  have hD : va_D A ([hq_ai q13 (G 2) 3 (fun _ => (0 : Int32)), hq_ai q6 (G 2) 3 (fun _ => (0 : Int32)), hq_o0 h q6 q13 0 0] ++ Z) := hD
  have hP := va_P.part (cx := [hq_o0 h q6 q13 0 0, hq_ai q6 (G 2) 3 (fun _ => (0 : Int32)), hq_ai q13 (G 2) 3 (fun _ => (0 : Int32))]) hP [2, 1, 0] rfl
  have hD := va_D.part (cx := [hq_o0 h q6 q13 0 0, hq_ai q6 (G 2) 3 (fun _ => (0 : Int32)), hq_ai q13 (G 2) 3 (fun _ => (0 : Int32))]) hD [2, 1, 0] (by decide) rfl
  refine W.widen (k := 2) (n := 6) (by decide) (by decide) ?_
  exact hret (q6, q13) H locs 28 ls d_Crossings_init_28 (trivial) hP hD hS
