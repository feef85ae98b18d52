theorem d_Loss_init_0 : decode b_Loss_init 0 = .ok (.aload_n 0, 1) := by decide +kernel
theorem d_Loss_init_1 : decode b_Loss_init 1 = .ok (.invokespecial 3, 3) := by decide +kernel
theorem d_Loss_init_4 : decode b_Loss_init 4 = .ok (.aload_n 0, 1) := by decide +kernel
theorem d_Loss_init_5 : decode b_Loss_init 5 = .ok (.iload_n 1, 1) := by decide +kernel
theorem d_Loss_init_6 : decode b_Loss_init 6 = .ok (.putfield 9, 3) := by decide +kernel
theorem d_Loss_init_9 : decode b_Loss_init 9 = .ok (.return_, 1) := by decide +kernel
set_option maxHeartbeats 4000000 in
set_option maxRecDepth 100000 in
theorem c_Loss_init (l : Launch) (D : va_G) (G : Nat → ClassId) (A : Nat → Prop) (Z : va_W) (h : Nat) (kd : Int32) : hq_FV l D G A y_Loss_init b_Loss_init 2 1 [.ref h, .int kd] ([hq_o3 h 0] ++ Z) ([hq_o3 h kd] ++ Z) := by
  refine hq_bV (by decide) (Nat.le_of_ble_eq_true rfl) ?_
  intro p e s m args below meth c Q hx hb hml hts hown hA hK hN hin hret ls H locs hl hP hD hS
  have hown : s.vm.findClass "HashedLearner$Loss" = some m.cls := hown
  have hl : lv_has ls 2 [(0, .ref h), (1, .int kd)] := hl
  refine lv_aload_n hx hb d_Loss_init_0 rfl (lv_at hl 0 rfl) ?_
  refine W.objInit hx hb hown (hts _ ob_Loss) (hts _ ob_i) (hts _ ob_c) rfl (by rw [hml]; exact hl.1) rfl d_Loss_init_1 (Nat.le_of_ble_eq_true rfl) (Nat.le_of_ble_eq_true rfl) ?_
  refine W.eq (g2 := F0 m 4 ls []) rfl ?_
  refine lv_aload_n hx hb d_Loss_init_4 rfl (lv_at hl 0 rfl) ?_
  refine lv_iload_n hx hb d_Loss_init_5 rfl (lv_at hl 1 rfl) ?_
  refine va_putF (D := D) (ci := 3) (v := .int kd) (ty := .int) (C := R_Loss) (T := F_Loss) (N := 1) hx hb hts uw_Loss t_Loss t_Loss_ok n_Loss hown hK hP hD hS 0 rfl rfl 0 (by decide) (hts _ fl_Loss_9) (fun _ h9 => h9) rfl hin rfl (by decide +kernel) (rfl) (rfl) (Nat.le_of_ble_eq_true rfl) d_Loss_init_6 (fun H locs hP hD hS => ?_)
  have hP : va_P D hq_cl ([hq_o3 h kd] ++ Z) H := hP
  have hD : va_D A ([hq_o3 h kd] ++ Z) := hD
  exact hret () H locs 9 ls d_Loss_init_9 (trivial) hP hD hS
