theorem d_M_waiting_0 : decode b_M_waiting 0 = .ok (.aload_n 0, 1) := by decide +kernel
theorem d_M_waiting_1 : decode b_M_waiting 1 = .ok (.getfield 222, 3) := by decide +kernel
theorem d_M_waiting_4 : decode b_M_waiting 4 = .ok (.ireturn, 1) := by decide +kernel
set_option maxHeartbeats 4000000 in
set_option maxRecDepth 100000 in
theorem c_M_waiting (l : Launch) (D : va_G) (G : Nat → ClassId) (A : Nat → Prop) (Z : va_W) (h : Nat) (fs : List Value) (rg : Nat) (hf7 : fs[7]? = some (.int (nI rg))) : hq_FI l D G A y_M_waiting b_M_waiting 1 .int 0 [.ref h] ([(h, .inr (8, fs))] ++ Z) (nI rg) ([(h, .inr (8, fs))] ++ Z) := by
  refine hq_bI (by decide) (Nat.le_of_ble_eq_true rfl) (fun _ _ _ => rfl) ?_
  intro p e s m args below meth c Q hx hb hml hts hown hA hK hN hret ls H locs hl hP hD hS
  have hown : s.vm.findClass "HashedLearnerModel" = some m.cls := hown
  have hl : lv_has ls 1 [(0, .ref h)] := hl
  refine lv_aload_n hx hb d_M_waiting_0 rfl (lv_at hl 0 rfl) ?_
  refine va_get (D := D) (ci := 8) (v := .int (nI rg)) (C := R_M) (T := F_M) (N := 34) hx hb hts uw_M hown hK hP 0 rfl rfl 7 (by decide) (hts _ fl_M_222) (fun _ h9 => h9) hf7 d_M_waiting_1 ?_
  exact hret (nI rg) () H locs 4 ls d_M_waiting_4 (rfl) hP hD hS
theorem d_M_warnings_0 : decode b_M_warnings 0 = .ok (.aload_n 0, 1) := by decide +kernel
theorem d_M_warnings_1 : decode b_M_warnings 1 = .ok (.getfield 225, 3) := by decide +kernel
theorem d_M_warnings_4 : decode b_M_warnings 4 = .ok (.ireturn, 1) := by decide +kernel
set_option maxHeartbeats 4000000 in
set_option maxRecDepth 100000 in
theorem c_M_warnings (l : Launch) (D : va_G) (G : Nat → ClassId) (A : Nat → Prop) (Z : va_W) (h : Nat) (fs : List Value) (wn : Int32) (hf33 : fs[33]? = some (.int wn)) : hq_FI l D G A y_M_warnings b_M_warnings 1 .int 0 [.ref h] ([(h, .inr (8, fs))] ++ Z) (wn) ([(h, .inr (8, fs))] ++ Z) := by
  refine hq_bI (by decide) (Nat.le_of_ble_eq_true rfl) (fun _ _ _ => rfl) ?_
  intro p e s m args below meth c Q hx hb hml hts hown hA hK hN hret ls H locs hl hP hD hS
  have hown : s.vm.findClass "HashedLearnerModel" = some m.cls := hown
  have hl : lv_has ls 1 [(0, .ref h)] := hl
  refine lv_aload_n hx hb d_M_warnings_0 rfl (lv_at hl 0 rfl) ?_
  refine va_get (D := D) (ci := 8) (v := .int wn) (C := R_M) (T := F_M) (N := 34) hx hb hts uw_M hown hK hP 0 rfl rfl 33 (by decide) (hts _ fl_M_225) (fun _ h9 => h9) hf33 d_M_warnings_1 ?_
  exact hret wn () H locs 4 ls d_M_warnings_4 (rfl) hP hD hS
theorem d_M_loss_0 : decode b_M_loss 0 = .ok (.aload_n 0, 1) := by decide +kernel
theorem d_M_loss_1 : decode b_M_loss 1 = .ok (.getfield 231, 3) := by decide +kernel
theorem d_M_loss_4 : decode b_M_loss 4 = .ok (.lreturn, 1) := by decide +kernel
set_option maxHeartbeats 4000000 in
set_option maxRecDepth 100000 in
theorem c_M_loss (l : Launch) (D : va_G) (G : Nat → ClassId) (A : Nat → Prop) (Z : va_W) (h : Nat) (fs : List Value) (tt : Int64) (hf27 : fs[27]? = some (.long tt)) : hq_FL l D G A y_M_loss b_M_loss 1 0 [.ref h] ([(h, .inr (8, fs))] ++ Z) (tt) ([(h, .inr (8, fs))] ++ Z) := by
  refine hq_bL (by decide) (Nat.le_of_ble_eq_true rfl) ?_
  intro p e s m args below meth c Q hx hb hml hts hown hA hK hN hret ls H locs hl hP hD hS
  have hown : s.vm.findClass "HashedLearnerModel" = some m.cls := hown
  have hl : lv_has ls 1 [(0, .ref h)] := hl
  refine lv_aload_n hx hb d_M_loss_0 rfl (lv_at hl 0 rfl) ?_
  refine va_get (D := D) (ci := 8) (v := .long tt) (C := R_M) (T := F_M) (N := 34) hx hb hts uw_M hown hK hP 0 rfl rfl 27 (by decide) (hts _ fl_M_231) (fun _ h9 => h9) hf27 d_M_loss_1 ?_
  exact hret tt () H locs 4 ls d_M_loss_4 (rfl) hP hD hS
theorem d_M_weight_0 : decode b_M_weight 0 = .ok (.iload_n 1, 1) := by decide +kernel
theorem d_M_weight_1 : decode b_M_weight 1 = .ok (.ifCond .lt (11), 3) := by decide +kernel
theorem d_M_weight_4 : decode b_M_weight 4 = .ok (.iload_n 1, 1) := by decide +kernel
theorem d_M_weight_5 : decode b_M_weight 5 = .ok (.aload_n 0, 1) := by decide +kernel
theorem d_M_weight_6 : decode b_M_weight 6 = .ok (.getfield 57, 3) := by decide +kernel
theorem d_M_weight_9 : decode b_M_weight 9 = .ok (.if_icmp .lt (7), 3) := by decide +kernel
theorem d_M_weight_12 : decode b_M_weight 12 = .ok (.iconst 0, 1) := by decide +kernel
theorem d_M_weight_13 : decode b_M_weight 13 = .ok (.goto (10), 3) := by decide +kernel
theorem d_M_weight_16 : decode b_M_weight 16 = .ok (.aload_n 0, 1) := by decide +kernel
theorem d_M_weight_17 : decode b_M_weight 17 = .ok (.getfield 40, 3) := by decide +kernel
theorem d_M_weight_20 : decode b_M_weight 20 = .ok (.iload_n 1, 1) := by decide +kernel
theorem d_M_weight_21 : decode b_M_weight 21 = .ok (.laload, 1) := by decide +kernel
theorem d_M_weight_22 : decode b_M_weight 22 = .ok (.l2i, 1) := by decide +kernel
theorem d_M_weight_23 : decode b_M_weight 23 = .ok (.ireturn, 1) := by decide +kernel
set_option maxHeartbeats 4000000 in
set_option maxRecDepth 100000 in
theorem c_M_weight (l : Launch) (D : va_G) (G : Nat → ClassId) (A : Nat → Prop) (Z : va_W) (h : Nat) (fs : List Value) (n : Nat) (wa : Nat) (wt : Nat → Int64) (x : Int32) (hf0 : fs[0]? = some (.int (nI n))) (hf23 : fs[23]? = some (.ref wa)) (hn : hq_pow n) : hq_FI l D G A y_M_weight b_M_weight 2 .int 0 [.ref h, .int x] ([(h, .inr (8, fs)), hq_al wa (G 1) 96 wt] ++ Z) (Int64.toInt32 (hq_get wt n x 0)) ([(h, .inr (8, fs)), hq_al wa (G 1) 96 wt] ++ Z) := by
  refine hq_bI (by decide) (Nat.le_of_ble_eq_true rfl) (fun _ _ _ => rfl) ?_
  intro p e s m args below meth c Q hx hb hml hts hown hA hK hN hret ls H locs hl hP hD hS
  have hown : s.vm.findClass "HashedLearnerModel" = some m.cls := hown
  have hl : lv_has ls 2 [(0, .ref h), (1, .int x)] := hl
  have hn31 := hq_pow_96 hn
  refine lv_iload_n hx hb d_M_weight_0 rfl (lv_at hl 1 rfl) ?_
  refine lv_if_lt (tgt := 12) hx hb d_M_weight_1 rfl (fun c1 => ?_) (fun c1 => ?_)
  · -- 1 taken
    have c1 : x < 0 := c1
    refine lv_iconst (v := 0) hx hb d_M_weight_12 (by decide) ?_
    refine lv_goto (tgt := 23) hx hb d_M_weight_13 rfl ?_
    exact hret 0 () H locs 23 ls d_M_weight_23 (by rw [hq_get_neg c1] <;> rfl) hP hD hS
  · -- 1 not taken
    have c1 : ¬ x < 0 := c1
    refine lv_iload_n hx hb d_M_weight_4 rfl (lv_at hl 1 rfl) ?_
    refine lv_aload_n hx hb d_M_weight_5 rfl (lv_at hl 0 rfl) ?_
    refine va_get (D := D) (ci := 8) (v := .int (nI n)) (C := R_M) (T := F_M) (N := 34) hx hb hts uw_M hown hK hP 0 rfl rfl 0 (by decide) (hts _ fl_M_57) (fun _ h9 => h9) hf0 d_M_weight_6 ?_
    refine lv_icmp_lt (tgt := 16) hx hb d_M_weight_9 rfl (fun c9 => ?_) (fun c9 => ?_)
    · -- 9 taken
      have c9 : x < (nI n) := c9
      obtain ⟨j, hj, rfl⟩ := hq_ix' c1 c9 (by omega)
      · skip
        refine lv_aload_n hx hb d_M_weight_16 rfl (lv_at hl 0 rfl) ?_
        refine va_get (D := D) (ci := 8) (v := .ref wa) (C := R_M) (T := F_M) (N := 34) hx hb hts uw_M hown hK hP 0 rfl rfl 23 (by decide) (hts _ fl_M_40) (fun _ h9 => h9) hf23 d_M_weight_17 ?_
        refine lv_iload_n hx hb d_M_weight_20 rfl (lv_at hl 1 rfl) ?_
        refine hq_lald (j := j) hx hb hK hP 1 rfl (by omega) (by omega) d_M_weight_21 ?_
        refine lv_l2i (v := Int64.toInt32 (wt j)) hx hb d_M_weight_22 rfl ?_
        exact hret (Int64.toInt32 (wt j)) () H locs 23 ls d_M_weight_23 (by rw [hq_get_in hj (by omega)]) hP hD hS
    · -- 9 not taken
      have c9 : ¬ x < (nI n) := c9
      refine lv_iconst (v := 0) hx hb d_M_weight_12 (by decide) ?_
      refine lv_goto (tgt := 23) hx hb d_M_weight_13 rfl ?_
      exact hret 0 () H locs 23 ls d_M_weight_23 (by rw [hq_get_big (Int32.not_lt.mp c9)] <;> rfl) hP hD hS
theorem d_M_sum_0 : decode b_M_sum 0 = .ok (.iload_n 1, 1) := by decide +kernel
theorem d_M_sum_1 : decode b_M_sum 1 = .ok (.ifCond .lt (11), 3) := by decide +kernel
theorem d_M_sum_4 : decode b_M_sum 4 = .ok (.iload_n 1, 1) := by decide +kernel
theorem d_M_sum_5 : decode b_M_sum 5 = .ok (.aload_n 0, 1) := by decide +kernel
theorem d_M_sum_6 : decode b_M_sum 6 = .ok (.getfield 57, 3) := by decide +kernel
theorem d_M_sum_9 : decode b_M_sum 9 = .ok (.if_icmp .lt (7), 3) := by decide +kernel
theorem d_M_sum_12 : decode b_M_sum 12 = .ok (.lconst 0, 1) := by decide +kernel
theorem d_M_sum_13 : decode b_M_sum 13 = .ok (.goto (9), 3) := by decide +kernel
theorem d_M_sum_16 : decode b_M_sum 16 = .ok (.aload_n 0, 1) := by decide +kernel
theorem d_M_sum_17 : decode b_M_sum 17 = .ok (.getfield 44, 3) := by decide +kernel
theorem d_M_sum_20 : decode b_M_sum 20 = .ok (.iload_n 1, 1) := by decide +kernel
theorem d_M_sum_21 : decode b_M_sum 21 = .ok (.laload, 1) := by decide +kernel
theorem d_M_sum_22 : decode b_M_sum 22 = .ok (.lreturn, 1) := by decide +kernel
set_option maxHeartbeats 4000000 in
set_option maxRecDepth 100000 in
theorem c_M_sum (l : Launch) (D : va_G) (G : Nat → ClassId) (A : Nat → Prop) (Z : va_W) (h : Nat) (fs : List Value) (n : Nat) (sa : Nat) (su : Nat → Int64) (x : Int32) (hf0 : fs[0]? = some (.int (nI n))) (hf24 : fs[24]? = some (.ref sa)) (hn : hq_pow n) : hq_FL l D G A y_M_sum b_M_sum 2 0 [.ref h, .int x] ([(h, .inr (8, fs)), hq_al sa (G 1) 96 su] ++ Z) (hq_get su n x 0) ([(h, .inr (8, fs)), hq_al sa (G 1) 96 su] ++ Z) := by
  refine hq_bL (by decide) (Nat.le_of_ble_eq_true rfl) ?_
  intro p e s m args below meth c Q hx hb hml hts hown hA hK hN hret ls H locs hl hP hD hS
  have hown : s.vm.findClass "HashedLearnerModel" = some m.cls := hown
  have hl : lv_has ls 2 [(0, .ref h), (1, .int x)] := hl
  have hn31 := hq_pow_96 hn
  refine lv_iload_n hx hb d_M_sum_0 rfl (lv_at hl 1 rfl) ?_
  refine lv_if_lt (tgt := 12) hx hb d_M_sum_1 rfl (fun c1 => ?_) (fun c1 => ?_)
  · -- 1 taken
    have c1 : x < 0 := c1
    refine lv_lconst (v := 0) hx hb d_M_sum_12 (by decide) ?_
    refine lv_goto (tgt := 22) hx hb d_M_sum_13 rfl ?_
    exact hret 0 () H locs 22 ls d_M_sum_22 (by rw [hq_get_neg c1] <;> rfl) hP hD hS
  · -- 1 not taken
    have c1 : ¬ x < 0 := c1
    refine lv_iload_n hx hb d_M_sum_4 rfl (lv_at hl 1 rfl) ?_
    refine lv_aload_n hx hb d_M_sum_5 rfl (lv_at hl 0 rfl) ?_
    refine va_get (D := D) (ci := 8) (v := .int (nI n)) (C := R_M) (T := F_M) (N := 34) hx hb hts uw_M hown hK hP 0 rfl rfl 0 (by decide) (hts _ fl_M_57) (fun _ h9 => h9) hf0 d_M_sum_6 ?_
    refine lv_icmp_lt (tgt := 16) hx hb d_M_sum_9 rfl (fun c9 => ?_) (fun c9 => ?_)
    · -- 9 taken
      have c9 : x < (nI n) := c9
      obtain ⟨j, hj, rfl⟩ := hq_ix' c1 c9 (by omega)
      · skip
        refine lv_aload_n hx hb d_M_sum_16 rfl (lv_at hl 0 rfl) ?_
        refine va_get (D := D) (ci := 8) (v := .ref sa) (C := R_M) (T := F_M) (N := 34) hx hb hts uw_M hown hK hP 0 rfl rfl 24 (by decide) (hts _ fl_M_44) (fun _ h9 => h9) hf24 d_M_sum_17 ?_
        refine lv_iload_n hx hb d_M_sum_20 rfl (lv_at hl 1 rfl) ?_
        refine hq_lald (j := j) hx hb hK hP 1 rfl (by omega) (by omega) d_M_sum_21 ?_
        exact hret (su j) () H locs 22 ls d_M_sum_22 (by rw [hq_get_in hj (by omega)]) hP hD hS
    · -- 9 not taken
      have c9 : ¬ x < (nI n) := c9
      refine lv_lconst (v := 0) hx hb d_M_sum_12 (by decide) ?_
      refine lv_goto (tgt := 22) hx hb d_M_sum_13 rfl ?_
      exact hret 0 () H locs 22 ls d_M_sum_22 (by rw [hq_get_big (Int32.not_lt.mp c9)] <;> rfl) hP hD hS
theorem d_M_scale_0 : decode b_M_scale 0 = .ok (.iload_n 1, 1) := by decide +kernel
theorem d_M_scale_1 : decode b_M_scale 1 = .ok (.ifCond .lt (11), 3) := by decide +kernel
theorem d_M_scale_4 : decode b_M_scale 4 = .ok (.iload_n 1, 1) := by decide +kernel
theorem d_M_scale_5 : decode b_M_scale 5 = .ok (.aload_n 0, 1) := by decide +kernel
theorem d_M_scale_6 : decode b_M_scale 6 = .ok (.getfield 57, 3) := by decide +kernel
theorem d_M_scale_9 : decode b_M_scale 9 = .ok (.if_icmp .lt (7), 3) := by decide +kernel
theorem d_M_scale_12 : decode b_M_scale 12 = .ok (.lconst 0, 1) := by decide +kernel
theorem d_M_scale_13 : decode b_M_scale 13 = .ok (.goto (9), 3) := by decide +kernel
theorem d_M_scale_16 : decode b_M_scale 16 = .ok (.aload_n 0, 1) := by decide +kernel
theorem d_M_scale_17 : decode b_M_scale 17 = .ok (.getfield 47, 3) := by decide +kernel
theorem d_M_scale_20 : decode b_M_scale 20 = .ok (.iload_n 1, 1) := by decide +kernel
theorem d_M_scale_21 : decode b_M_scale 21 = .ok (.laload, 1) := by decide +kernel
theorem d_M_scale_22 : decode b_M_scale 22 = .ok (.lreturn, 1) := by decide +kernel
set_option maxHeartbeats 4000000 in
set_option maxRecDepth 100000 in
theorem c_M_scale (l : Launch) (D : va_G) (G : Nat → ClassId) (A : Nat → Prop) (Z : va_W) (h : Nat) (fs : List Value) (n : Nat) (ca : Nat) (sc : Nat → Int64) (x : Int32) (hf0 : fs[0]? = some (.int (nI n))) (hf25 : fs[25]? = some (.ref ca)) (hn : hq_pow n) : hq_FL l D G A y_M_scale b_M_scale 2 0 [.ref h, .int x] ([(h, .inr (8, fs)), hq_al ca (G 1) 96 sc] ++ Z) (hq_get sc n x 0) ([(h, .inr (8, fs)), hq_al ca (G 1) 96 sc] ++ Z) := by
  refine hq_bL (by decide) (Nat.le_of_ble_eq_true rfl) ?_
  intro p e s m args below meth c Q hx hb hml hts hown hA hK hN hret ls H locs hl hP hD hS
  have hown : s.vm.findClass "HashedLearnerModel" = some m.cls := hown
  have hl : lv_has ls 2 [(0, .ref h), (1, .int x)] := hl
  have hn31 := hq_pow_96 hn
  refine lv_iload_n hx hb d_M_scale_0 rfl (lv_at hl 1 rfl) ?_
  refine lv_if_lt (tgt := 12) hx hb d_M_scale_1 rfl (fun c1 => ?_) (fun c1 => ?_)
  · -- 1 taken
    have c1 : x < 0 := c1
    refine lv_lconst (v := 0) hx hb d_M_scale_12 (by decide) ?_
    refine lv_goto (tgt := 22) hx hb d_M_scale_13 rfl ?_
    exact hret 0 () H locs 22 ls d_M_scale_22 (by rw [hq_get_neg c1] <;> rfl) hP hD hS
  · -- 1 not taken
    have c1 : ¬ x < 0 := c1
    refine lv_iload_n hx hb d_M_scale_4 rfl (lv_at hl 1 rfl) ?_
    refine lv_aload_n hx hb d_M_scale_5 rfl (lv_at hl 0 rfl) ?_
    refine va_get (D := D) (ci := 8) (v := .int (nI n)) (C := R_M) (T := F_M) (N := 34) hx hb hts uw_M hown hK hP 0 rfl rfl 0 (by decide) (hts _ fl_M_57) (fun _ h9 => h9) hf0 d_M_scale_6 ?_
    refine lv_icmp_lt (tgt := 16) hx hb d_M_scale_9 rfl (fun c9 => ?_) (fun c9 => ?_)
    · -- 9 taken
      have c9 : x < (nI n) := c9
      obtain ⟨j, hj, rfl⟩ := hq_ix' c1 c9 (by omega)
      · skip
        refine lv_aload_n hx hb d_M_scale_16 rfl (lv_at hl 0 rfl) ?_
        refine va_get (D := D) (ci := 8) (v := .ref ca) (C := R_M) (T := F_M) (N := 34) hx hb hts uw_M hown hK hP 0 rfl rfl 25 (by decide) (hts _ fl_M_47) (fun _ h9 => h9) hf25 d_M_scale_17 ?_
        refine lv_iload_n hx hb d_M_scale_20 rfl (lv_at hl 1 rfl) ?_
        refine hq_lald (j := j) hx hb hK hP 1 rfl (by omega) (by omega) d_M_scale_21 ?_
        exact hret (sc j) () H locs 22 ls d_M_scale_22 (by rw [hq_get_in hj (by omega)]) hP hD hS
    · -- 9 not taken
      have c9 : ¬ x < (nI n) := c9
      refine lv_lconst (v := 0) hx hb d_M_scale_12 (by decide) ?_
      refine lv_goto (tgt := 22) hx hb d_M_scale_13 rfl ?_
      exact hret 0 () H locs 22 ls d_M_scale_22 (by rw [hq_get_big (Int32.not_lt.mp c9)] <;> rfl) hP hD hS
theorem d_M_report_0 : decode b_M_report 0 = .ok (.iload_n 1, 1) := by decide +kernel
theorem d_M_report_1 : decode b_M_report 1 = .ok (.iconst (-1), 1) := by decide +kernel
theorem d_M_report_2 : decode b_M_report 2 = .ok (.if_icmp .ne (11), 3) := by decide +kernel
theorem d_M_report_5 : decode b_M_report 5 = .ok (.aload_n 0, 1) := by decide +kernel
theorem d_M_report_6 : decode b_M_report 6 = .ok (.getfield 244, 3) := by decide +kernel
theorem d_M_report_9 : decode b_M_report 9 = .ok (.i2l, 1) := by decide +kernel
theorem d_M_report_10 : decode b_M_report 10 = .ok (.goto (27), 3) := by decide +kernel
theorem d_M_report_13 : decode b_M_report 13 = .ok (.iload_n 1, 1) := by decide +kernel
theorem d_M_report_14 : decode b_M_report 14 = .ok (.ifCond .lt (11), 3) := by decide +kernel
theorem d_M_report_17 : decode b_M_report 17 = .ok (.iload_n 1, 1) := by decide +kernel
theorem d_M_report_18 : decode b_M_report 18 = .ok (.aload_n 0, 1) := by decide +kernel
theorem d_M_report_19 : decode b_M_report 19 = .ok (.getfield 244, 3) := by decide +kernel
theorem d_M_report_22 : decode b_M_report 22 = .ok (.if_icmp .lt (9), 3) := by decide +kernel
theorem d_M_report_25 : decode b_M_report 25 = .ok (.ldc2_w 273, 3) := by decide +kernel
theorem d_M_report_28 : decode b_M_report 28 = .ok (.goto (9), 3) := by decide +kernel
theorem d_M_report_31 : decode b_M_report 31 = .ok (.aload_n 0, 1) := by decide +kernel
theorem d_M_report_32 : decode b_M_report 32 = .ok (.getfield 54, 3) := by decide +kernel
theorem d_M_report_35 : decode b_M_report 35 = .ok (.iload_n 1, 1) := by decide +kernel
theorem d_M_report_36 : decode b_M_report 36 = .ok (.laload, 1) := by decide +kernel
theorem d_M_report_37 : decode b_M_report 37 = .ok (.lreturn, 1) := by decide +kernel
set_option maxHeartbeats 4000000 in
set_option maxRecDepth 100000 in
theorem c_M_report (l : Launch) (D : va_G) (G : Nat → ClassId) (A : Nat → Prop) (Z : va_W) (h : Nat) (fs : List Value) (rc : Nat) (ra : Nat) (rp : Nat → Int64) (x : Int32) (hf31 : fs[31]? = some (.int (nI rc))) (hf32 : fs[32]? = some (.ref ra)) (hrc : rc ≤ 12) : hq_FL l D G A y_M_report b_M_report 2 0 [.ref h, .int x] ([(h, .inr (8, fs)), hq_al ra (G 1) 12 rp] ++ Z) (hq_rep1 rp rc x) ([(h, .inr (8, fs)), hq_al ra (G 1) 12 rp] ++ Z) := by
  refine hq_bL (by decide) (Nat.le_of_ble_eq_true rfl) ?_
  intro p e s m args below meth c Q hx hb hml hts hown hA hK hN hret ls H locs hl hP hD hS
  have hown : s.vm.findClass "HashedLearnerModel" = some m.cls := hown
  have hl : lv_has ls 2 [(0, .ref h), (1, .int x)] := hl
  refine lv_iload_n hx hb d_M_report_0 rfl (lv_at hl 1 rfl) ?_
  refine lv_iconst (v := (-1)) hx hb d_M_report_1 (by decide) ?_
  refine lv_icmp_ne (tgt := 13) hx hb d_M_report_2 rfl (fun c2 => ?_) (fun c2 => ?_)
  · -- 2 taken
    have c2 : ¬ x = (-1) := c2
    refine lv_iload_n hx hb d_M_report_13 rfl (lv_at hl 1 rfl) ?_
    refine lv_if_lt (tgt := 25) hx hb d_M_report_14 rfl (fun c14 => ?_) (fun c14 => ?_)
    · -- 14 taken
      have c14 : x < 0 := c14
      refine lv_ldc2 (v := (-1)) hx hb hown (hts _ kl_M_273) d_M_report_25 ?_
      refine lv_goto (tgt := 37) hx hb d_M_report_28 rfl ?_
      exact hret (-1) () H locs 37 ls d_M_report_37 (by rw [hq_rep1, if_neg c2, hq_get_neg c14]) hP hD hS
    · -- 14 not taken
      have c14 : ¬ x < 0 := c14
      refine lv_iload_n hx hb d_M_report_17 rfl (lv_at hl 1 rfl) ?_
      refine lv_aload_n hx hb d_M_report_18 rfl (lv_at hl 0 rfl) ?_
      refine va_get (D := D) (ci := 8) (v := .int (nI rc)) (C := R_M) (T := F_M) (N := 34) hx hb hts uw_M hown hK hP 0 rfl rfl 31 (by decide) (hts _ fl_M_244) (fun _ h9 => h9) hf31 d_M_report_19 ?_
      refine lv_icmp_lt (tgt := 31) hx hb d_M_report_22 rfl (fun c22 => ?_) (fun c22 => ?_)
      · -- 22 taken
        have c22 : x < (nI rc) := c22
        obtain ⟨j, hj, rfl⟩ := hq_ix' c14 c22 (by omega)
        · skip
          refine lv_aload_n hx hb d_M_report_31 rfl (lv_at hl 0 rfl) ?_
          refine va_get (D := D) (ci := 8) (v := .ref ra) (C := R_M) (T := F_M) (N := 34) hx hb hts uw_M hown hK hP 0 rfl rfl 32 (by decide) (hts _ fl_M_54) (fun _ h9 => h9) hf32 d_M_report_32 ?_
          refine lv_iload_n hx hb d_M_report_35 rfl (lv_at hl 1 rfl) ?_
          refine hq_lald (j := j) hx hb hK hP 1 rfl (by omega) (by omega) d_M_report_36 ?_
          exact hret (rp j) () H locs 37 ls d_M_report_37 (by rw [hq_rep1, if_neg c2, hq_get_in hj (by omega)]) hP hD hS
      · -- 22 not taken
        have c22 : ¬ x < (nI rc) := c22
        refine lv_ldc2 (v := (-1)) hx hb hown (hts _ kl_M_273) d_M_report_25 ?_
        refine lv_goto (tgt := 37) hx hb d_M_report_28 rfl ?_
        exact hret (-1) () H locs 37 ls d_M_report_37 (by rw [hq_rep1, if_neg c2, hq_get_big (Int32.not_lt.mp c22)]) hP hD hS
  · -- 2 not taken
    have c2 : x = (-1) := c2
    refine lv_aload_n hx hb d_M_report_5 rfl (lv_at hl 0 rfl) ?_
    refine va_get (D := D) (ci := 8) (v := .int (nI rc)) (C := R_M) (T := F_M) (N := 34) hx hb hts uw_M hown hK hP 0 rfl rfl 31 (by decide) (hts _ fl_M_244) (fun _ h9 => h9) hf31 d_M_report_6 ?_
    refine lv_i2l (v := Int32.toInt64 (nI rc)) hx hb d_M_report_9 rfl ?_
    refine lv_goto (tgt := 37) hx hb d_M_report_10 rfl ?_
    exact hret (Int32.toInt64 (nI rc)) () H locs 37 ls d_M_report_37 (by rw [hq_rep1, if_pos c2]) hP hD hS
theorem d_M_write_0 : decode b_M_write 0 = .ok (.iload_n 1, 1) := by decide +kernel
theorem d_M_write_1 : decode b_M_write 1 = .ok (.bipush (32), 2) := by decide +kernel
theorem d_M_write_3 : decode b_M_write 3 = .ok (.if_icmp .lt (18), 3) := by decide +kernel
theorem d_M_write_6 : decode b_M_write 6 = .ok (.iload_n 1, 1) := by decide +kernel
theorem d_M_write_7 : decode b_M_write 7 = .ok (.bipush (126), 2) := by decide +kernel
theorem d_M_write_9 : decode b_M_write 9 = .ok (.if_icmp .gt (12), 3) := by decide +kernel
theorem d_M_write_12 : decode b_M_write 12 = .ok (.aload_n 0, 1) := by decide +kernel
theorem d_M_write_13 : decode b_M_write 13 = .ok (.getfield 71, 3) := by decide +kernel
theorem d_M_write_16 : decode b_M_write 16 = .ok (.bipush (100), 2) := by decide +kernel
theorem d_M_write_18 : decode b_M_write 18 = .ok (.if_icmp .lt (5), 3) := by decide +kernel
theorem d_M_write_21 : decode b_M_write 21 = .ok (.iconst 0, 1) := by decide +kernel
theorem d_M_write_22 : decode b_M_write 22 = .ok (.ireturn, 1) := by decide +kernel
theorem d_M_write_23 : decode b_M_write 23 = .ok (.aload_n 0, 1) := by decide +kernel
theorem d_M_write_24 : decode b_M_write 24 = .ok (.getfield 7, 3) := by decide +kernel
theorem d_M_write_27 : decode b_M_write 27 = .ok (.aload_n 0, 1) := by decide +kernel
theorem d_M_write_28 : decode b_M_write 28 = .ok (.getfield 71, 3) := by decide +kernel
theorem d_M_write_31 : decode b_M_write 31 = .ok (.iload_n 1, 1) := by decide +kernel
theorem d_M_write_32 : decode b_M_write 32 = .ok (.iastore, 1) := by decide +kernel
theorem d_M_write_33 : decode b_M_write 33 = .ok (.aload_n 0, 1) := by decide +kernel
theorem d_M_write_34 : decode b_M_write 34 = .ok (.dup, 1) := by decide +kernel
theorem d_M_write_35 : decode b_M_write 35 = .ok (.getfield 71, 3) := by decide +kernel
theorem d_M_write_38 : decode b_M_write 38 = .ok (.iconst 1, 1) := by decide +kernel
theorem d_M_write_39 : decode b_M_write 39 = .ok (.iadd, 1) := by decide +kernel
theorem d_M_write_40 : decode b_M_write 40 = .ok (.putfield 71, 3) := by decide +kernel
theorem d_M_write_43 : decode b_M_write 43 = .ok (.iconst 1, 1) := by decide +kernel
theorem d_M_write_44 : decode b_M_write 44 = .ok (.ireturn, 1) := by decide +kernel
def f_M_write (ty : Nat → Int32) (sz : Nat) (ch : Int32) : Bool := if ch < 32 then false else if 126 < ch then false else if sz < 100 then true else false
def f_M_write_o1 (ty : Nat → Int32) (sz : Nat) (ch : Int32) : Nat := if ch < 32 then sz else if 126 < ch then sz else if sz < 100 then sz + 1 else sz
def f_M_write_o2 (ty : Nat → Int32) (sz : Nat) (ch : Int32) : Nat → Int32 := if ch < 32 then ty else if 126 < ch then ty else if sz < 100 then upd ty sz ch else ty
set_option maxHeartbeats 4000000 in
set_option maxRecDepth 100000 in
theorem c_M_write (l : Launch) (D : va_G) (G : Nat → ClassId) (A : Nat → Prop) (Z : va_W) (h : Nat) (n : Nat) (kd : Int32) (ru : Int32) (ya : Nat) (sz : Nat) (ta : Nat) (la : Nat) (rg : Nat) (so : Nat) (bg : Bool) (nc : Nat) (lfa : Nat) (rta : Nat) (lb : Int32) (wo : Int32) (ft : Nat) (fha : Nat) (fva : Nat) (fla : Nat) (sp : Nat) (tc : Nat) (tha : Nat) (tva : Nat) (wa : Nat) (sa : Nat) (ca : Nat) (va : Nat) (tt : Int64) (ld : Int32) (pt : Int64) (pw : Int64) (rc : Nat) (ra : Nat) (wn : Int32) (ty : Nat → Int32) (ch : Int32) (hsz : sz ≤ 100) : hq_FI l D G A y_M_write b_M_write 2 .boolean 0 [.ref h, .int ch] ([hq_o8 h (nI n) kd ru ya (nI sz) ta la (nI rg) (nI so) (hq_z bg) (nI nc) lfa rta lb wo (nI ft) fha fva fla (nI sp) (nI tc) tha tva wa sa ca va tt ld pt pw (nI rc) ra wn, hq_ai ya (G 0) 100 ty] ++ Z) (hq_z (f_M_write ty sz ch)) ([hq_o8 h (nI n) kd ru ya (nI (f_M_write_o1 ty sz ch)) ta la (nI rg) (nI so) (hq_z bg) (nI nc) lfa rta lb wo (nI ft) fha fva fla (nI sp) (nI tc) tha tva wa sa ca va tt ld pt pw (nI rc) ra wn, hq_ai ya (G 0) 100 (f_M_write_o2 ty sz ch)] ++ Z) := by
  refine hq_bI (by decide) (Nat.le_of_ble_eq_true rfl) (fun r u h => by rw [h]; exact hq_znar _) ?_
  intro p e s m args below meth c Q hx hb hml hts hown hA hK hN hret ls H locs hl hP hD hS
  have hown : s.vm.findClass "HashedLearnerModel" = some m.cls := hown
  have hl : lv_has ls 2 [(0, .ref h), (1, .int ch)] := hl
  refine lv_iload_n hx hb d_M_write_0 rfl (lv_at hl 1 rfl) ?_
  refine lv_bipush (v := 32) hx hb d_M_write_1 (by decide) ?_
  refine lv_icmp_lt (tgt := 21) hx hb d_M_write_3 rfl (fun c3 => ?_) (fun c3 => ?_)
  · -- 3 taken
    have c3 : ch < 32 := c3
    refine lv_iconst (v := 0) hx hb d_M_write_21 (by decide) ?_
    have hP : va_P D hq_cl ([hq_o8 h (nI n) kd ru ya (nI (f_M_write_o1 ty sz ch)) ta la (nI rg) (nI so) (hq_z bg) (nI nc) lfa rta lb wo (nI ft) fha fva fla (nI sp) (nI tc) tha tva wa sa ca va tt ld pt pw (nI rc) ra wn, hq_ai ya (G 0) 100 (f_M_write_o2 ty sz ch)] ++ Z) H := by rw [show nI (f_M_write_o1 ty sz ch) = nI sz by (rw [f_M_write_o1, if_pos c3] <;> rfl), show f_M_write_o2 ty sz ch = ty by (rw [f_M_write_o2, if_pos c3] <;> rfl)]; exact hP
    have hD : va_D A ([hq_o8 h (nI n) kd ru ya (nI (f_M_write_o1 ty sz ch)) ta la (nI rg) (nI so) (hq_z bg) (nI nc) lfa rta lb wo (nI ft) fha fva fla (nI sp) (nI tc) tha tva wa sa ca va tt ld pt pw (nI rc) ra wn, hq_ai ya (G 0) 100 (f_M_write_o2 ty sz ch)] ++ Z) := by rw [show nI (f_M_write_o1 ty sz ch) = nI sz by (rw [f_M_write_o1, if_pos c3] <;> rfl), show f_M_write_o2 ty sz ch = ty by (rw [f_M_write_o2, if_pos c3] <;> rfl)]; exact hD
    exact hret 0 () H locs 22 ls d_M_write_22 (by rw [f_M_write, if_pos c3] <;> rfl) hP hD hS
  · -- 3 not taken
    have c3 : ¬ ch < 32 := c3
    refine lv_iload_n hx hb d_M_write_6 rfl (lv_at hl 1 rfl) ?_
    refine lv_bipush (v := 126) hx hb d_M_write_7 (by decide) ?_
    refine lv_icmp_gt (tgt := 21) hx hb d_M_write_9 rfl (fun c9 => ?_) (fun c9 => ?_)
    · -- 9 taken
      have c9 : 126 < ch := c9
      refine lv_iconst (v := 0) hx hb d_M_write_21 (by decide) ?_
      have hP : va_P D hq_cl ([hq_o8 h (nI n) kd ru ya (nI (f_M_write_o1 ty sz ch)) ta la (nI rg) (nI so) (hq_z bg) (nI nc) lfa rta lb wo (nI ft) fha fva fla (nI sp) (nI tc) tha tva wa sa ca va tt ld pt pw (nI rc) ra wn, hq_ai ya (G 0) 100 (f_M_write_o2 ty sz ch)] ++ Z) H := by rw [show nI (f_M_write_o1 ty sz ch) = nI sz by (rw [f_M_write_o1, if_neg c3, if_pos c9] <;> rfl), show f_M_write_o2 ty sz ch = ty by (rw [f_M_write_o2, if_neg c3, if_pos c9] <;> rfl)]; exact hP
      have hD : va_D A ([hq_o8 h (nI n) kd ru ya (nI (f_M_write_o1 ty sz ch)) ta la (nI rg) (nI so) (hq_z bg) (nI nc) lfa rta lb wo (nI ft) fha fva fla (nI sp) (nI tc) tha tva wa sa ca va tt ld pt pw (nI rc) ra wn, hq_ai ya (G 0) 100 (f_M_write_o2 ty sz ch)] ++ Z) := by rw [show nI (f_M_write_o1 ty sz ch) = nI sz by (rw [f_M_write_o1, if_neg c3, if_pos c9] <;> rfl), show f_M_write_o2 ty sz ch = ty by (rw [f_M_write_o2, if_neg c3, if_pos c9] <;> rfl)]; exact hD
      exact hret 0 () H locs 22 ls d_M_write_22 (by rw [f_M_write, if_neg c3, if_pos c9] <;> rfl) hP hD hS
    · -- 9 not taken
      have c9 : ¬ 126 < ch := c9
      refine lv_aload_n hx hb d_M_write_12 rfl (lv_at hl 0 rfl) ?_
      refine va_get (D := D) (ci := 8) (v := .int (nI sz)) (C := R_M) (T := F_M) (N := 34) hx hb hts uw_M hown hK hP 0 rfl rfl 4 (by decide) (hts _ fl_M_71) (fun _ h9 => h9) rfl d_M_write_13 ?_
      refine lv_bipush (v := 100) hx hb d_M_write_16 (by decide) ?_
      refine lv_icmp_lt (tgt := 23) hx hb d_M_write_18 rfl (fun c18 => ?_) (fun c18 => ?_)
      · -- 18 taken
        have c18 : sz < 100 := (nI_ltI (a := sz) (b := 100) (by omega) (by omega)).mp c18
        refine lv_aload_n hx hb d_M_write_23 rfl (lv_at hl 0 rfl) ?_
        refine va_get (D := D) (ci := 8) (v := .ref ya) (C := R_M) (T := F_M) (N := 34) hx hb hts uw_M hown hK hP 0 rfl rfl 3 (by decide) (hts _ fl_M_7) (fun _ h9 => h9) rfl d_M_write_24 ?_
        refine lv_aload_n hx hb d_M_write_27 rfl (lv_at hl 0 rfl) ?_
        refine va_get (D := D) (ci := 8) (v := .int (nI sz)) (C := R_M) (T := F_M) (N := 34) hx hb hts uw_M hown hK hP 0 rfl rfl 4 (by decide) (hts _ fl_M_71) (fun _ h9 => h9) rfl d_M_write_28 ?_
        refine lv_iload_n hx hb d_M_write_31 rfl (lv_at hl 1 rfl) ?_
        refine hq_iast (j := sz) hx hb hK hP hD hS 1 rfl (by omega) (by omega) d_M_write_32 (fun H locs hP hD hS => ?_)
        have hP : va_P D hq_cl ([hq_o8 h (nI n) kd ru ya (nI sz) ta la (nI rg) (nI so) (hq_z bg) (nI nc) lfa rta lb wo (nI ft) fha fva fla (nI sp) (nI tc) tha tva wa sa ca va tt ld pt pw (nI rc) ra wn, hq_ai ya (G 0) 100 (upd ty sz ch)] ++ Z) H := hP
        have hD : va_D A ([hq_o8 h (nI n) kd ru ya (nI sz) ta la (nI rg) (nI so) (hq_z bg) (nI nc) lfa rta lb wo (nI ft) fha fva fla (nI sp) (nI tc) tha tva wa sa ca va tt ld pt pw (nI rc) ra wn, hq_ai ya (G 0) 100 (upd ty sz ch)] ++ Z) := hD
        refine lv_aload_n hx hb d_M_write_33 rfl (lv_at hl 0 rfl) ?_
        refine lv_dup hx hb d_M_write_34 rfl ?_
        refine va_get (D := D) (ci := 8) (v := .int (nI sz)) (C := R_M) (T := F_M) (N := 34) hx hb hts uw_M hown hK hP 0 rfl rfl 4 (by decide) (hts _ fl_M_71) (fun _ h9 => h9) rfl d_M_write_35 ?_
        refine lv_iconst (v := 1) hx hb d_M_write_38 (by decide) ?_
        refine lv_iadd hx hb d_M_write_39 ?_
        refine hq_topi (x' := nI (sz + 1)) (nI_add sz 1) ?_
        refine va_put (D := D) (ci := 8) (v := .int (nI (sz + 1))) (ty := .int) (C := R_M) (T := F_M) (N := 34) hx hb hts uw_M t_M t_M_ok n_M hown hK hP hD hS 0 rfl rfl 4 (by decide) (hts _ fl_M_71) (fun _ h9 => h9) rfl (by decide +kernel) (rfl) (rfl) (Nat.le_of_ble_eq_true rfl) d_M_write_40 (fun H locs hP hD hS => ?_)
        have hP : va_P D hq_cl ([hq_o8 h (nI n) kd ru ya (nI (sz + 1)) ta la (nI rg) (nI so) (hq_z bg) (nI nc) lfa rta lb wo (nI ft) fha fva fla (nI sp) (nI tc) tha tva wa sa ca va tt ld pt pw (nI rc) ra wn, hq_ai ya (G 0) 100 (upd ty sz ch)] ++ Z) H := hP
        have hD : va_D A ([hq_o8 h (nI n) kd ru ya (nI (sz + 1)) ta la (nI rg) (nI so) (hq_z bg) (nI nc) lfa rta lb wo (nI ft) fha fva fla (nI sp) (nI tc) tha tva wa sa ca va tt ld pt pw (nI rc) ra wn, hq_ai ya (G 0) 100 (upd ty sz ch)] ++ Z) := hD
        refine lv_iconst (v := 1) hx hb d_M_write_43 (by decide) ?_
        have hP : va_P D hq_cl ([hq_o8 h (nI n) kd ru ya (nI (f_M_write_o1 ty sz ch)) ta la (nI rg) (nI so) (hq_z bg) (nI nc) lfa rta lb wo (nI ft) fha fva fla (nI sp) (nI tc) tha tva wa sa ca va tt ld pt pw (nI rc) ra wn, hq_ai ya (G 0) 100 (f_M_write_o2 ty sz ch)] ++ Z) H := by rw [show nI (f_M_write_o1 ty sz ch) = nI (sz + 1) by (rw [f_M_write_o1, if_neg c3, if_neg c9, if_pos c18] <;> rfl), show f_M_write_o2 ty sz ch = upd ty sz ch by (rw [f_M_write_o2, if_neg c3, if_neg c9, if_pos c18] <;> rfl)]; exact hP
        have hD : va_D A ([hq_o8 h (nI n) kd ru ya (nI (f_M_write_o1 ty sz ch)) ta la (nI rg) (nI so) (hq_z bg) (nI nc) lfa rta lb wo (nI ft) fha fva fla (nI sp) (nI tc) tha tva wa sa ca va tt ld pt pw (nI rc) ra wn, hq_ai ya (G 0) 100 (f_M_write_o2 ty sz ch)] ++ Z) := by rw [show nI (f_M_write_o1 ty sz ch) = nI (sz + 1) by (rw [f_M_write_o1, if_neg c3, if_neg c9, if_pos c18] <;> rfl), show f_M_write_o2 ty sz ch = upd ty sz ch by (rw [f_M_write_o2, if_neg c3, if_neg c9, if_pos c18] <;> rfl)]; exact hD
        exact hret 1 () H locs 44 ls d_M_write_44 (by rw [f_M_write, if_neg c3, if_neg c9, if_pos c18] <;> rfl) hP hD hS
      · -- 18 not taken
        have c18 : ¬ sz < 100 := fun h => c18 ((nI_ltI (a := sz) (b := 100) (by omega) (by omega)).mpr h)
        refine lv_iconst (v := 0) hx hb d_M_write_21 (by decide) ?_
        have hP : va_P D hq_cl ([hq_o8 h (nI n) kd ru ya (nI (f_M_write_o1 ty sz ch)) ta la (nI rg) (nI so) (hq_z bg) (nI nc) lfa rta lb wo (nI ft) fha fva fla (nI sp) (nI tc) tha tva wa sa ca va tt ld pt pw (nI rc) ra wn, hq_ai ya (G 0) 100 (f_M_write_o2 ty sz ch)] ++ Z) H := by rw [show nI (f_M_write_o1 ty sz ch) = nI sz by (rw [f_M_write_o1, if_neg c3, if_neg c9, if_neg c18] <;> rfl), show f_M_write_o2 ty sz ch = ty by (rw [f_M_write_o2, if_neg c3, if_neg c9, if_neg c18] <;> rfl)]; exact hP
        have hD : va_D A ([hq_o8 h (nI n) kd ru ya (nI (f_M_write_o1 ty sz ch)) ta la (nI rg) (nI so) (hq_z bg) (nI nc) lfa rta lb wo (nI ft) fha fva fla (nI sp) (nI tc) tha tva wa sa ca va tt ld pt pw (nI rc) ra wn, hq_ai ya (G 0) 100 (f_M_write_o2 ty sz ch)] ++ Z) := by rw [show nI (f_M_write_o1 ty sz ch) = nI sz by (rw [f_M_write_o1, if_neg c3, if_neg c9, if_neg c18] <;> rfl), show f_M_write_o2 ty sz ch = ty by (rw [f_M_write_o2, if_neg c3, if_neg c9, if_neg c18] <;> rfl)]; exact hD
        exact hret 0 () H locs 22 ls d_M_write_22 (by rw [f_M_write, if_neg c3, if_neg c9, if_neg c18] <;> rfl) hP hD hS
