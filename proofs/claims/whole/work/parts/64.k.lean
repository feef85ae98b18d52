theorem d_Table_init_0 : decode b_Table_init 0 = .ok (.aload_n 0, 1) := by decide +kernel
theorem d_Table_init_1 : decode b_Table_init 1 = .ok (.invokespecial 3, 3) := by decide +kernel
theorem d_Table_init_4 : decode b_Table_init 4 = .ok (.aload_n 0, 1) := by decide +kernel
theorem d_Table_init_5 : decode b_Table_init 5 = .ok (.iload_n 1, 1) := by decide +kernel
theorem d_Table_init_6 : decode b_Table_init 6 = .ok (.newarray .int, 2) := by decide +kernel
theorem d_Table_init_8 : decode b_Table_init 8 = .ok (.putfield 9, 3) := by decide +kernel
theorem d_Table_init_11 : decode b_Table_init 11 = .ok (.aload_n 0, 1) := by decide +kernel
theorem d_Table_init_12 : decode b_Table_init 12 = .ok (.iload_n 1, 1) := by decide +kernel
theorem d_Table_init_13 : decode b_Table_init 13 = .ok (.newarray .long, 2) := by decide +kernel
theorem d_Table_init_15 : decode b_Table_init 15 = .ok (.putfield 15, 3) := by decide +kernel
theorem d_Table_init_18 : decode b_Table_init 18 = .ok (.aload_n 0, 1) := by decide +kernel
theorem d_Table_init_19 : decode b_Table_init 19 = .ok (.iload_n 1, 1) := by decide +kernel
theorem d_Table_init_20 : decode b_Table_init 20 = .ok (.newarray .long, 2) := by decide +kernel
theorem d_Table_init_22 : decode b_Table_init 22 = .ok (.putfield 19, 3) := by decide +kernel
theorem d_Table_init_25 : decode b_Table_init 25 = .ok (.aload_n 0, 1) := by decide +kernel
theorem d_Table_init_26 : decode b_Table_init 26 = .ok (.iload_n 2, 1) := by decide +kernel
theorem d_Table_init_27 : decode b_Table_init 27 = .ok (.putfield 22, 3) := by decide +kernel
theorem d_Table_init_30 : decode b_Table_init 30 = .ok (.return_, 1) := by decide +kernel
set_option maxHeartbeats 4000000 in
set_option maxRecDepth 100000 in
theorem c_Table_init (l : Launch) (D : va_G) (G : Nat → ClassId) (A : Nat → Prop) (Z : va_W) (h : Nat) (n : Nat) (ru : Int32) (hn : hq_pow n) : hq_MV l D G A y_Table_init b_Table_init 3 1 3 96 [.ref h, .int (nI n), .int ru] ([(h, .inr (4, [.null, .null, .null, .int 0]))] ++ Z) (fun (u : Nat × Nat × Nat) => True) (fun (u : Nat × Nat × Nat) => [hq_o4 h u.1 u.2.1 u.2.2 ru, hq_ai u.1 (G 0) n (fun _ => (0 : Int32)), hq_al u.2.1 (G 1) n (fun _ => (0 : Int64)), hq_al u.2.2 (G 1) n (fun _ => (0 : Int64))] ++ Z) := by
  refine hq_bV (by decide) (Nat.le_of_ble_eq_true rfl) ?_
  intro p e s m args below meth c Q hx hb hml hts hown hA hK hN hin hret ls H locs hl hP hD hS
  have hown : s.vm.findClass "HashedLearner$Table" = some m.cls := hown
  have hl : lv_has ls 3 [(0, .ref h), (1, .int (nI n)), (2, .int ru)] := hl
  have hn31 := hq_pow_96 hn
  refine lv_aload_n hx hb d_Table_init_0 rfl (lv_at hl 0 rfl) ?_
  refine W.objInit hx hb hown (hts _ ob_Table) (hts _ ob_i) (hts _ ob_c) rfl (by rw [hml]; exact hl.1) rfl d_Table_init_1 (Nat.le_of_ble_eq_true rfl) (Nat.le_of_ble_eq_true rfl) ?_
  refine W.eq (g2 := F0 m 4 ls []) rfl ?_
  refine lv_aload_n hx hb d_Table_init_4 rfl (lv_at hl 0 rfl) ?_
  refine lv_iload_n hx hb d_Table_init_5 rfl (lv_at hl 1 rfl) ?_
  refine hq_newa (atype := .int) (ty := .int) (g := G 0) (n := n) (a0 := (n, .inl (fun _ => (0 : Int32)))) hx hb (hts _ ac_int) rfl hK hP hD hS hA 0 rfl (fun _ => rfl) (by omega) (by rcases hn with rfl | rfl | rfl <;> decide) (by decide) (by show _ ≤ 96; omega) d_Table_init_6 (fun q6 H hP hD hS => ?_)
  have hP : va_P D hq_cl ([hq_ai q6 (G 0) n (fun _ => (0 : Int32)), (h, .inr (4, [.null, .null, .null, .int 0]))] ++ Z) H := hP
  have hD : va_D A ([hq_ai q6 (G 0) n (fun _ => (0 : Int32)), (h, .inr (4, [.null, .null, .null, .int 0]))] ++ Z) := hD
  refine va_putF (D := D) (ci := 4) (v := .ref q6) (ty := (.array .int)) (C := R_Table) (T := F_Table) (N := 4) hx hb hts uw_Table t_Table t_Table_ok n_Table hown hK hP hD hS 1 rfl rfl 0 (by decide) (hts _ fl_Table_9) (fun _ h9 => h9) rfl hin rfl (by decide +kernel) (rfl) (rfl) (Nat.le_of_ble_eq_true rfl) d_Table_init_8 (fun H locs hP hD hS => ?_)
  have hP : va_P D hq_cl ([hq_ai q6 (G 0) n (fun _ => (0 : Int32)), (h, .inr (4, [.ref q6, .null, .null, .int 0]))] ++ Z) H := hP
  have hD : va_D A ([hq_ai q6 (G 0) n (fun _ => (0 : Int32)), (h, .inr (4, [.ref q6, .null, .null, .int 0]))] ++ Z) := hD
  refine lv_aload_n hx hb d_Table_init_11 rfl (lv_at hl 0 rfl) ?_
  refine lv_iload_n hx hb d_Table_init_12 rfl (lv_at hl 1 rfl) ?_
  refine hq_newa (atype := .long) (ty := .long) (g := G 1) (n := n) (a0 := (n, .inr (.inl (fun _ => (0 : Int64))))) hx hb (hts _ ac_long) rfl hK hP hD hS hA 1 rfl (fun _ => rfl) (by omega) (by rcases hn with rfl | rfl | rfl <;> decide) (by decide) (by show _ ≤ 96; omega) d_Table_init_13 (fun q13 H hP hD hS => ?_)
  have hP : va_P D hq_cl ([hq_al q13 (G 1) n (fun _ => (0 : Int64)), hq_ai q6 (G 0) n (fun _ => (0 : Int32)), (h, .inr (4, [.ref q6, .null, .null, .int 0]))] ++ Z) H := hP
  have hD : va_D A ([hq_al q13 (G 1) n (fun _ => (0 : Int64)), hq_ai q6 (G 0) n (fun _ => (0 : Int32)), (h, .inr (4, [.ref q6, .null, .null, .int 0]))] ++ Z) := hD
  refine va_putF (D := D) (ci := 4) (v := .ref q13) (ty := (.array .long)) (C := R_Table) (T := F_Table) (N := 4) hx hb hts uw_Table t_Table t_Table_ok n_Table hown hK hP hD hS 2 rfl rfl 1 (by decide) (hts _ fl_Table_15) (fun _ h9 => h9) rfl hin rfl (by decide +kernel) (rfl) (rfl) (Nat.le_of_ble_eq_true rfl) d_Table_init_15 (fun H locs hP hD hS => ?_)
  have hP : va_P D hq_cl ([hq_al q13 (G 1) n (fun _ => (0 : Int64)), hq_ai q6 (G 0) n (fun _ => (0 : Int32)), (h, .inr (4, [.ref q6, .ref q13, .null, .int 0]))] ++ Z) H := hP
  have hD : va_D A ([hq_al q13 (G 1) n (fun _ => (0 : Int64)), hq_ai q6 (G 0) n (fun _ => (0 : Int32)), (h, .inr (4, [.ref q6, .ref q13, .null, .int 0]))] ++ Z) := hD
  refine lv_aload_n hx hb d_Table_init_18 rfl (lv_at hl 0 rfl) ?_
  refine lv_iload_n hx hb d_Table_init_19 rfl (lv_at hl 1 rfl) ?_
  refine hq_newa (atype := .long) (ty := .long) (g := G 1) (n := n) (a0 := (n, .inr (.inl (fun _ => (0 : Int64))))) hx hb (hts _ ac_long) rfl hK hP hD hS hA 1 rfl (fun _ => rfl) (by omega) (by rcases hn with rfl | rfl | rfl <;> decide) (by decide) (by show _ ≤ 96; omega) d_Table_init_20 (fun q20 H hP hD hS => ?_)
  have hP : va_P D hq_cl ([hq_al q20 (G 1) n (fun _ => (0 : Int64)), hq_al q13 (G 1) n (fun _ => (0 : Int64)), hq_ai q6 (G 0) n (fun _ => (0 : Int32)), (h, .inr (4, [.ref q6, .ref q13, .null, .int 0]))] ++ Z) H := hP
  have hD : va_D A ([hq_al q20 (G 1) n (fun _ => (0 : Int64)), hq_al q13 (G 1) n (fun _ => (0 : Int64)), hq_ai q6 (G 0) n (fun _ => (0 : Int32)), (h, .inr (4, [.ref q6, .ref q13, .null, .int 0]))] ++ Z) := hD
  refine va_putF (D := D) (ci := 4) (v := .ref q20) (ty := (.array .long)) (C := R_Table) (T := F_Table) (N := 4) hx hb hts uw_Table t_Table t_Table_ok n_Table hown hK hP hD hS 3 rfl rfl 2 (by decide) (hts _ fl_Table_19) (fun _ h9 => h9) rfl hin rfl (by decide +kernel) (rfl) (rfl) (Nat.le_of_ble_eq_true rfl) d_Table_init_22 (fun H locs hP hD hS => ?_)
  have hP : va_P D hq_cl ([hq_al q20 (G 1) n (fun _ => (0 : Int64)), hq_al q13 (G 1) n (fun _ => (0 : Int64)), hq_ai q6 (G 0) n (fun _ => (0 : Int32)), hq_o4 h q6 q13 q20 0] ++ Z) H := hP
  have hD : va_D A ([hq_al q20 (G 1) n (fun _ => (0 : Int64)), hq_al q13 (G 1) n (fun _ => (0 : Int64)), hq_ai q6 (G 0) n (fun _ => (0 : Int32)), hq_o4 h q6 q13 q20 0] ++ Z) := hD
  refine lv_aload_n hx hb d_Table_init_25 rfl (lv_at hl 0 rfl) ?_
  refine lv_iload_n hx hb d_Table_init_26 rfl (lv_at hl 2 rfl) ?_
  refine va_putF (D := D) (ci := 4) (v := .int ru) (ty := .int) (C := R_Table) (T := F_Table) (N := 4) hx hb hts uw_Table t_Table t_Table_ok n_Table hown hK hP hD hS 3 rfl rfl 3 (by decide) (hts _ fl_Table_22) (fun _ h9 => h9) rfl hin rfl (by decide +kernel) (rfl) (rfl) (Nat.le_of_ble_eq_true rfl) d_Table_init_27 (fun H locs hP hD hS => ?_)
  have hP : va_P D hq_cl ([hq_al q20 (G 1) n (fun _ => (0 : Int64)), hq_al q13 (G 1) n (fun _ => (0 : Int64)), hq_ai q6 (G 0) n (fun _ => (0 : Int32)), hq_o4 h q6 q13 q20 ru] ++ Z) H := hP
  have hD : va_D A ([hq_al q20 (G 1) n (fun _ => (0 : Int64)), hq_al q13 (G 1) n (fun _ => (0 : Int64)), hq_ai q6 (G 0) n (fun _ => (0 : Int32)), hq_o4 h q6 q13 q20 ru] ++ Z) := hD
  have hP := va_P.part (cx := [hq_o4 h q6 q13 q20 ru, hq_ai q6 (G 0) n (fun _ => (0 : Int32)), hq_al q13 (G 1) n (fun _ => (0 : Int64)), hq_al q20 (G 1) n (fun _ => (0 : Int64))]) hP [3, 2, 1, 0] rfl
  have hD := va_D.part (cx := [hq_o4 h q6 q13 q20 ru, hq_ai q6 (G 0) n (fun _ => (0 : Int32)), hq_al q13 (G 1) n (fun _ => (0 : Int64)), hq_al q20 (G 1) n (fun _ => (0 : Int64))]) hD [3, 2, 1, 0] (by decide) rfl
  refine W.widen (k := 3) (n := 96) (by omega) (by omega) ?_
  exact hret (q6, q13, q20) H locs 30 ls d_Table_init_30 (trivial) hP hD hS
