theorem d_Tally_init_0 : decode b_Tally_init 0 = .ok (.aload_n 0, 1) := by decide +kernel
theorem d_Tally_init_1 : decode b_Tally_init 1 = .ok (.invokespecial 3, 3) := by decide +kernel
theorem d_Tally_init_4 : decode b_Tally_init 4 = .ok (.aload_n 0, 1) := by decide +kernel
theorem d_Tally_init_5 : decode b_Tally_init 5 = .ok (.bipush (31), 2) := by decide +kernel
theorem d_Tally_init_7 : decode b_Tally_init 7 = .ok (.newarray .long, 2) := by decide +kernel
theorem d_Tally_init_9 : decode b_Tally_init 9 = .ok (.putfield 9, 3) := by decide +kernel
theorem d_Tally_init_12 : decode b_Tally_init 12 = .ok (.aload_n 0, 1) := by decide +kernel
theorem d_Tally_init_13 : decode b_Tally_init 13 = .ok (.iconst 0, 1) := by decide +kernel
theorem d_Tally_init_14 : decode b_Tally_init 14 = .ok (.putfield 15, 3) := by decide +kernel
theorem d_Tally_init_17 : decode b_Tally_init 17 = .ok (.aload_n 0, 1) := by decide +kernel
theorem d_Tally_init_18 : decode b_Tally_init 18 = .ok (.lconst 0, 1) := by decide +kernel
theorem d_Tally_init_19 : decode b_Tally_init 19 = .ok (.putfield 19, 3) := by decide +kernel
theorem d_Tally_init_22 : decode b_Tally_init 22 = .ok (.aload_n 0, 1) := by decide +kernel
theorem d_Tally_init_23 : decode b_Tally_init 23 = .ok (.iconst 0, 1) := by decide +kernel
theorem d_Tally_init_24 : decode b_Tally_init 24 = .ok (.putfield 23, 3) := by decide +kernel
theorem d_Tally_init_27 : decode b_Tally_init 27 = .ok (.aload_n 0, 1) := by decide +kernel
theorem d_Tally_init_28 : decode b_Tally_init 28 = .ok (.lconst 0, 1) := by decide +kernel
theorem d_Tally_init_29 : decode b_Tally_init 29 = .ok (.putfield 26, 3) := by decide +kernel
theorem d_Tally_init_32 : decode b_Tally_init 32 = .ok (.aload_n 0, 1) := by decide +kernel
theorem d_Tally_init_33 : decode b_Tally_init 33 = .ok (.lconst 0, 1) := by decide +kernel
theorem d_Tally_init_34 : decode b_Tally_init 34 = .ok (.putfield 29, 3) := by decide +kernel
theorem d_Tally_init_37 : decode b_Tally_init 37 = .ok (.return_, 1) := by decide +kernel
set_option maxHeartbeats 4000000 in
set_option maxRecDepth 100000 in
theorem c_Tally_init (l : Launch) (D : va_G) (G : Nat → ClassId) (A : Nat → Prop) (Z : va_W) (h : Nat) : hq_MV l D G A y_Tally_init b_Tally_init 1 1 1 31 [.ref h] ([(h, .inr (5, [.null, .int 0, .long 0, .int 0, .long 0, .long 0]))] ++ Z) (fun (u : Nat) => True) (fun (u : Nat) => [hq_o5 h u 0 0 0 0 0, hq_al u (G 1) 31 (fun _ => (0 : Int64))] ++ Z) := by
  refine hq_bV (by decide) (Nat.le_of_ble_eq_true rfl) ?_
  intro p e s m args below meth c Q hx hb hml hts hown hA hK hN hin hret ls H locs hl hP hD hS
  have hown : s.vm.findClass "HashedLearner$Tally" = some m.cls := hown
  have hl : lv_has ls 1 [(0, .ref h)] := hl
  refine lv_aload_n hx hb d_Tally_init_0 rfl (lv_at hl 0 rfl) ?_
  refine W.objInit hx hb hown (hts _ ob_Tally) (hts _ ob_i) (hts _ ob_c) rfl (by rw [hml]; exact hl.1) rfl d_Tally_init_1 (Nat.le_of_ble_eq_true rfl) (Nat.le_of_ble_eq_true rfl) ?_
  refine W.eq (g2 := F0 m 4 ls []) rfl ?_
  refine lv_aload_n hx hb d_Tally_init_4 rfl (lv_at hl 0 rfl) ?_
  refine lv_bipush (v := nI 31) hx hb d_Tally_init_5 (by decide) ?_
  refine hq_newa (atype := .long) (ty := .long) (g := G 1) (n := 31) (a0 := (31, .inr (.inl (fun _ => (0 : Int64))))) hx hb (hts _ ac_long) rfl hK hP hD hS hA 1 rfl (fun _ => rfl) (by decide) (by decide) (by decide) (by decide) d_Tally_init_7 (fun q7 H hP hD hS => ?_)
  have hP : va_P D hq_cl ([hq_al q7 (G 1) 31 (fun _ => (0 : Int64)), (h, .inr (5, [.null, .int 0, .long 0, .int 0, .long 0, .long 0]))] ++ Z) H := hP
  have hD : va_D A ([hq_al q7 (G 1) 31 (fun _ => (0 : Int64)), (h, .inr (5, [.null, .int 0, .long 0, .int 0, .long 0, .long 0]))] ++ Z) := hD
  refine va_putF (D := D) (ci := 5) (v := .ref q7) (ty := (.array .long)) (C := R_Tally) (T := F_Tally) (N := 6) hx hb hts uw_Tally t_Tally t_Tally_ok n_Tally hown hK hP hD hS 1 rfl rfl 0 (by decide) (hts _ fl_Tally_9) (fun _ h9 => h9) rfl hin rfl (by decide +kernel) (rfl) (rfl) (Nat.le_of_ble_eq_true rfl) d_Tally_init_9 (fun H locs hP hD hS => ?_)
  have hP : va_P D hq_cl ([hq_al q7 (G 1) 31 (fun _ => (0 : Int64)), hq_o5 h q7 0 0 0 0 0] ++ Z) H := hP
  have hD : va_D A ([hq_al q7 (G 1) 31 (fun _ => (0 : Int64)), hq_o5 h q7 0 0 0 0 0] ++ Z) := hD
  refine lv_aload_n hx hb d_Tally_init_12 rfl (lv_at hl 0 rfl) ?_
  refine lv_iconst (v := 0) hx hb d_Tally_init_13 (by decide) ?_
  refine va_put (D := D) (ci := 5) (v := .int 0) (ty := .int) (C := R_Tally) (T := F_Tally) (N := 6) hx hb hts uw_Tally t_Tally t_Tally_ok n_Tally hown hK hP hD hS 1 rfl rfl 1 (by decide) (hts _ fl_Tally_15) (fun _ h9 => h9) rfl (by decide +kernel) (rfl) (rfl) (Nat.le_of_ble_eq_true rfl) d_Tally_init_14 (fun H locs hP hD hS => ?_)
  have hP : va_P D hq_cl ([hq_al q7 (G 1) 31 (fun _ => (0 : Int64)), hq_o5 h q7 0 0 0 0 0] ++ Z) H := hP
  have hD : va_D A ([hq_al q7 (G 1) 31 (fun _ => (0 : Int64)), hq_o5 h q7 0 0 0 0 0] ++ Z) := hD
  refine lv_aload_n hx hb d_Tally_init_17 rfl (lv_at hl 0 rfl) ?_
  refine lv_lconst (v := 0) hx hb d_Tally_init_18 (by decide) ?_
  refine va_put (D := D) (ci := 5) (v := .long 0) (ty := .long) (C := R_Tally) (T := F_Tally) (N := 6) hx hb hts uw_Tally t_Tally t_Tally_ok n_Tally hown hK hP hD hS 1 rfl rfl 2 (by decide) (hts _ fl_Tally_19) (fun _ h9 => h9) rfl (by decide +kernel) (rfl) (rfl) (Nat.le_of_ble_eq_true rfl) d_Tally_init_19 (fun H locs hP hD hS => ?_)
  have hP : va_P D hq_cl ([hq_al q7 (G 1) 31 (fun _ => (0 : Int64)), hq_o5 h q7 0 0 0 0 0] ++ Z) H := hP
  have hD : va_D A ([hq_al q7 (G 1) 31 (fun _ => (0 : Int64)), hq_o5 h q7 0 0 0 0 0] ++ Z) := hD
  refine lv_aload_n hx hb d_Tally_init_22 rfl (lv_at hl 0 rfl) ?_
  refine lv_iconst (v := 0) hx hb d_Tally_init_23 (by decide) ?_
  refine va_put (D := D) (ci := 5) (v := .int 0) (ty := .int) (C := R_Tally) (T := F_Tally) (N := 6) hx hb hts uw_Tally t_Tally t_Tally_ok n_Tally hown hK hP hD hS 1 rfl rfl 3 (by decide) (hts _ fl_Tally_23) (fun _ h9 => h9) rfl (by decide +kernel) (rfl) (rfl) (Nat.le_of_ble_eq_true rfl) d_Tally_init_24 (fun H locs hP hD hS => ?_)
  have hP : va_P D hq_cl ([hq_al q7 (G 1) 31 (fun _ => (0 : Int64)), hq_o5 h q7 0 0 0 0 0] ++ Z) H := hP
  have hD : va_D A ([hq_al q7 (G 1) 31 (fun _ => (0 : Int64)), hq_o5 h q7 0 0 0 0 0] ++ Z) := hD
  refine lv_aload_n hx hb d_Tally_init_27 rfl (lv_at hl 0 rfl) ?_
  refine lv_lconst (v := 0) hx hb d_Tally_init_28 (by decide) ?_
  refine va_put (D := D) (ci := 5) (v := .long 0) (ty := .long) (C := R_Tally) (T := F_Tally) (N := 6) hx hb hts uw_Tally t_Tally t_Tally_ok n_Tally hown hK hP hD hS 1 rfl rfl 4 (by decide) (hts _ fl_Tally_26) (fun _ h9 => h9) rfl (by decide +kernel) (rfl) (rfl) (Nat.le_of_ble_eq_true rfl) d_Tally_init_29 (fun H locs hP hD hS => ?_)
  have hP : va_P D hq_cl ([hq_al q7 (G 1) 31 (fun _ => (0 : Int64)), hq_o5 h q7 0 0 0 0 0] ++ Z) H := hP
  have hD : va_D A ([hq_al q7 (G 1) 31 (fun _ => (0 : Int64)), hq_o5 h q7 0 0 0 0 0] ++ Z) := hD
  refine lv_aload_n hx hb d_Tally_init_32 rfl (lv_at hl 0 rfl) ?_
  refine lv_lconst (v := 0) hx hb d_Tally_init_33 (by decide) ?_
  refine va_put (D := D) (ci := 5) (v := .long 0) (ty := .long) (C := R_Tally) (T := F_Tally) (N := 6) hx hb hts uw_Tally t_Tally t_Tally_ok n_Tally hown hK hP hD hS 1 rfl rfl 5 (by decide) (hts _ fl_Tally_29) (fun _ h9 => h9) rfl (by decide +kernel) (rfl) (rfl) (Nat.le_of_ble_eq_true rfl) d_Tally_init_34 (fun H locs hP hD hS => ?_)
  have hP : va_P D hq_cl ([hq_al q7 (G 1) 31 (fun _ => (0 : Int64)), hq_o5 h q7 0 0 0 0 0] ++ Z) H := hP
  have hD : va_D A ([hq_al q7 (G 1) 31 (fun _ => (0 : Int64)), hq_o5 h q7 0 0 0 0 0] ++ Z) := hD
  have hP := va_P.part (cx := [hq_o5 h q7 0 0 0 0 0, hq_al q7 (G 1) 31 (fun _ => (0 : Int64))]) hP [1, 0] rfl
  have hD := va_D.part (cx := [hq_o5 h q7 0 0 0 0 0, hq_al q7 (G 1) 31 (fun _ => (0 : Int64))]) hD [1, 0] (by decide) rfl
  refine W.widen (k := 1) (n := 31) (by decide) (by decide) ?_
  exact hret (q7) H locs 37 ls d_Tally_init_37 (trivial) hP hD hS
