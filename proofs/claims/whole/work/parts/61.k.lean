theorem d_Terms_init_0 : decode b_Terms_init 0 = .ok (.aload_n 0, 1) := by decide +kernel
theorem d_Terms_init_1 : decode b_Terms_init 1 = .ok (.invokespecial 3, 3) := by decide +kernel
theorem d_Terms_init_4 : decode b_Terms_init 4 = .ok (.aload_n 0, 1) := by decide +kernel
theorem d_Terms_init_5 : decode b_Terms_init 5 = .ok (.sipush (247), 3) := by decide +kernel
theorem d_Terms_init_8 : decode b_Terms_init 8 = .ok (.newarray .int, 2) := by decide +kernel
theorem d_Terms_init_10 : decode b_Terms_init 10 = .ok (.putfield 9, 3) := by decide +kernel
theorem d_Terms_init_13 : decode b_Terms_init 13 = .ok (.aload_n 0, 1) := by decide +kernel
theorem d_Terms_init_14 : decode b_Terms_init 14 = .ok (.sipush (247), 3) := by decide +kernel
theorem d_Terms_init_17 : decode b_Terms_init 17 = .ok (.newarray .int, 2) := by decide +kernel
theorem d_Terms_init_19 : decode b_Terms_init 19 = .ok (.putfield 15, 3) := by decide +kernel
theorem d_Terms_init_22 : decode b_Terms_init 22 = .ok (.aload_n 0, 1) := by decide +kernel
theorem d_Terms_init_23 : decode b_Terms_init 23 = .ok (.iconst 0, 1) := by decide +kernel
theorem d_Terms_init_24 : decode b_Terms_init 24 = .ok (.putfield 18, 3) := by decide +kernel
theorem d_Terms_init_27 : decode b_Terms_init 27 = .ok (.return_, 1) := by decide +kernel
set_option maxHeartbeats 4000000 in
set_option maxRecDepth 100000 in
theorem c_Terms_init (l : Launch) (D : va_G) (G : Nat → ClassId) (A : Nat → Prop) (Z : va_W) (h : Nat) : hq_MV l D G A y_Terms_init b_Terms_init 1 1 2 494 [.ref h] ([(h, .inr (6, [.null, .null, .int 0]))] ++ Z) (fun (u : Nat × Nat) => True) (fun (u : Nat × Nat) => [hq_o6 h u.1 u.2 0, hq_ai u.1 (G 0) 247 (fun _ => (0 : Int32)), hq_ai u.2 (G 0) 247 (fun _ => (0 : Int32))] ++ Z) := by
  refine hq_bV (by decide) (Nat.le_of_ble_eq_true rfl) ?_
  intro p e s m args below meth c Q hx hb hml hts hown hA hK hN hin hret ls H locs hl hP hD hS
  have hown : s.vm.findClass "HashedLearner$Terms" = some m.cls := hown
  have hl : lv_has ls 1 [(0, .ref h)] := hl
  refine lv_aload_n hx hb d_Terms_init_0 rfl (lv_at hl 0 rfl) ?_
  refine W.objInit hx hb hown (hts _ ob_Terms) (hts _ ob_i) (hts _ ob_c) rfl (by rw [hml]; exact hl.1) rfl d_Terms_init_1 (Nat.le_of_ble_eq_true rfl) (Nat.le_of_ble_eq_true rfl) ?_
  refine W.eq (g2 := F0 m 4 ls []) rfl ?_
  refine lv_aload_n hx hb d_Terms_init_4 rfl (lv_at hl 0 rfl) ?_
  refine lv_sipush (v := nI 247) hx hb d_Terms_init_5 (by decide) ?_
  refine hq_newa (atype := .int) (ty := .int) (g := G 0) (n := 247) (a0 := (247, .inl (fun _ => (0 : Int32)))) hx hb (hts _ ac_int) rfl hK hP hD hS hA 0 rfl (fun _ => rfl) (by decide) (by decide) (by decide) (by decide) d_Terms_init_8 (fun q8 H hP hD hS => ?_)
  have hP : va_P D hq_cl ([hq_ai q8 (G 0) 247 (fun _ => (0 : Int32)), (h, .inr (6, [.null, .null, .int 0]))] ++ Z) H := hP
  have hD : va_D A ([hq_ai q8 (G 0) 247 (fun _ => (0 : Int32)), (h, .inr (6, [.null, .null, .int 0]))] ++ Z) := hD
  refine va_putF (D := D) (ci := 6) (v := .ref q8) (ty := (.array .int)) (C := R_Terms) (T := F_Terms) (N := 3) hx hb hts uw_Terms t_Terms t_Terms_ok n_Terms hown hK hP hD hS 1 rfl rfl 0 (by decide) (hts _ fl_Terms_9) (fun _ h9 => h9) rfl hin rfl (by decide +kernel) (rfl) (rfl) (Nat.le_of_ble_eq_true rfl) d_Terms_init_10 (fun H locs hP hD hS => ?_)
  have hP : va_P D hq_cl ([hq_ai q8 (G 0) 247 (fun _ => (0 : Int32)), (h, .inr (6, [.ref q8, .null, .int 0]))] ++ Z) H := hP
  have hD : va_D A ([hq_ai q8 (G 0) 247 (fun _ => (0 : Int32)), (h, .inr (6, [.ref q8, .null, .int 0]))] ++ Z) := hD
  refine lv_aload_n hx hb d_Terms_init_13 rfl (lv_at hl 0 rfl) ?_
  refine lv_sipush (v := nI 247) hx hb d_Terms_init_14 (by decide) ?_
  refine hq_newa (atype := .int) (ty := .int) (g := G 0) (n := 247) (a0 := (247, .inl (fun _ => (0 : Int32)))) hx hb (hts _ ac_int) rfl hK hP hD hS hA 0 rfl (fun _ => rfl) (by decide) (by decide) (by decide) (by decide) d_Terms_init_17 (fun q17 H hP hD hS => ?_)
  have hP : va_P D hq_cl ([hq_ai q17 (G 0) 247 (fun _ => (0 : Int32)), hq_ai q8 (G 0) 247 (fun _ => (0 : Int32)), (h, .inr (6, [.ref q8, .null, .int 0]))] ++ Z) H := hP
  have hD : va_D A ([hq_ai q17 (G 0) 247 (fun _ => (0 : Int32)), hq_ai q8 (G 0) 247 (fun _ => (0 : Int32)), (h, .inr (6, [.ref q8, .null, .int 0]))] ++ Z) := hD
  refine va_putF (D := D) (ci := 6) (v := .ref q17) (ty := (.array .int)) (C := R_Terms) (T := F_Terms) (N := 3) hx hb hts uw_Terms t_Terms t_Terms_ok n_Terms hown hK hP hD hS 2 rfl rfl 1 (by decide) (hts _ fl_Terms_15) (fun _ h9 => h9) rfl hin rfl (by decide +kernel) (rfl) (rfl) (Nat.le_of_ble_eq_true rfl) d_Terms_init_19 (fun H locs hP hD hS => ?_)
  have hP : va_P D hq_cl ([hq_ai q17 (G 0) 247 (fun _ => (0 : Int32)), hq_ai q8 (G 0) 247 (fun _ => (0 : Int32)), hq_o6 h q8 q17 0] ++ Z) H := hP
  have hD : va_D A ([hq_ai q17 (G 0) 247 (fun _ => (0 : Int32)), hq_ai q8 (G 0) 247 (fun _ => (0 : Int32)), hq_o6 h q8 q17 0] ++ Z) := hD
  refine lv_aload_n hx hb d_Terms_init_22 rfl (lv_at hl 0 rfl) ?_
  refine lv_iconst (v := 0) hx hb d_Terms_init_23 (by decide) ?_
  refine va_put (D := D) (ci := 6) (v := .int 0) (ty := .int) (C := R_Terms) (T := F_Terms) (N := 3) hx hb hts uw_Terms t_Terms t_Terms_ok n_Terms hown hK hP hD hS 2 rfl rfl 2 (by decide) (hts _ fl_Terms_18) (fun _ h9 => h9) rfl (by decide +kernel) (rfl) (rfl) (Nat.le_of_ble_eq_true rfl) d_Terms_init_24 (fun H locs hP hD hS => ?_)
  have hP : va_P D hq_cl ([hq_ai q17 (G 0) 247 (fun _ => (0 : Int32)), hq_ai q8 (G 0) 247 (fun _ => (0 : Int32)), hq_o6 h q8 q17 0] ++ Z) H := hP
  have hD : va_D A ([hq_ai q17 (G 0) 247 (fun _ => (0 : Int32)), hq_ai q8 (G 0) 247 (fun _ => (0 : Int32)), hq_o6 h q8 q17 0] ++ Z) := hD
  have hP := va_P.part (cx := [hq_o6 h q8 q17 0, hq_ai q8 (G 0) 247 (fun _ => (0 : Int32)), hq_ai q17 (G 0) 247 (fun _ => (0 : Int32))]) hP [2, 1, 0] rfl
  have hD := va_D.part (cx := [hq_o6 h q8 q17 0, hq_ai q8 (G 0) 247 (fun _ => (0 : Int32)), hq_ai q17 (G 0) 247 (fun _ => (0 : Int32))]) hD [2, 1, 0] (by decide) rfl
  refine W.widen (k := 2) (n := 494) (by decide) (by decide) ?_
  exact hret (q8, q17) H locs 27 ls d_Terms_init_27 (trivial) hP hD hS
