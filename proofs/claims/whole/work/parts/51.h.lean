theorem d_H_weight_0 : decode b_H_weight 0 = .ok (.aload_n 0, 1) := by decide +kernel
theorem d_H_weight_1 : decode b_H_weight 1 = .ok (.getfield 81, 3) := by decide +kernel
theorem d_H_weight_4 : decode b_H_weight 4 = .ok (.iload_n 1, 1) := by decide +kernel
theorem d_H_weight_5 : decode b_H_weight 5 = .ok (.invokevirtual 159, 3) := by decide +kernel
theorem d_H_weight_8 : decode b_H_weight 8 = .ok (.ifCond .eq (15), 3) := by decide +kernel
theorem d_H_weight_11 : decode b_H_weight 11 = .ok (.aload_n 0, 1) := by decide +kernel
theorem d_H_weight_12 : decode b_H_weight 12 = .ok (.getfield 81, 3) := by decide +kernel
theorem d_H_weight_15 : decode b_H_weight 15 = .ok (.getfield 162, 3) := by decide +kernel
theorem d_H_weight_18 : decode b_H_weight 18 = .ok (.iload_n 1, 1) := by decide +kernel
theorem d_H_weight_19 : decode b_H_weight 19 = .ok (.iaload, 1) := by decide +kernel
theorem d_H_weight_20 : decode b_H_weight 20 = .ok (.goto (4), 3) := by decide +kernel
theorem d_H_weight_23 : decode b_H_weight 23 = .ok (.iconst 0, 1) := by decide +kernel
theorem d_H_weight_24 : decode b_H_weight 24 = .ok (.ireturn, 1) := by decide +kernel
set_option maxHeartbeats 4000000 in
set_option maxRecDepth 100000 in
theorem c_H_weight (l : Launch) (D : va_G) (G : Nat → ClassId) (A : Nat → Prop) (Z : va_W) (h : Nat) (fs : List Value) (b : Nat) (wa : Nat) (sa : Nat) (ca : Nat) (n : Nat) (wt : Nat → Int32) (su : Nat → Int64) (sc : Nat → Int64) (ru : Int32) (x : Int32) (hf10 : fs[10]? = some (.ref b)) (hn : hq_pow n) : hq_FI l D G A y_H_weight b_H_weight 2 .int 1 [.ref h, .int x] ([(h, .inr (7, fs)), hq_o4 b wa sa ca ru, hq_ai wa (G 0) n wt, hq_al sa (G 1) n su, hq_al ca (G 1) n sc] ++ Z) (hq_get wt n x 0) ([(h, .inr (7, fs)), hq_o4 b wa sa ca ru, hq_ai wa (G 0) n wt, hq_al sa (G 1) n su, hq_al ca (G 1) n sc] ++ Z) := by
  refine hq_bI (by decide) (Nat.le_of_ble_eq_true rfl) (fun _ _ _ => rfl) ?_
  intro p e s m args below meth c Q hx hb hml hts hown hA hK hN hret ls H locs hl hP hD hS
  have hown : s.vm.findClass "HashedLearner" = some m.cls := hown
  have hl : lv_has ls 2 [(0, .ref h), (1, .int x)] := hl
  have hn31 := hq_pow_lt hn
  refine lv_aload_n hx hb d_H_weight_0 rfl (lv_at hl 0 rfl) ?_
  refine va_get (D := D) (ci := 7) (v := .ref b) (C := R_H) (T := F_H) (N := 14) hx hb hts uw_H hown hK hP 0 rfl rfl 10 (by decide) (hts _ fl_H_81) (fun _ h9 => h9) hf10 d_H_weight_1 ?_
  refine lv_iload_n hx hb d_H_weight_4 rfl (lv_at hl 1 rfl) ?_
  have hPc : va_P D hq_cl ([hq_o4 b wa sa ca ru, hq_ai wa (G 0) n wt, hq_al sa (G 1) n su, hq_al ca (G 1) n sc] ++ ([(h, .inr (7, fs))] ++ Z)) H := va_P.part (cx := [hq_o4 b wa sa ca ru, hq_ai wa (G 0) n wt, hq_al sa (G 1) n su, hq_al ca (G 1) n sc, (h, .inr (7, fs))]) hP [1, 2, 3, 4, 0] rfl
  have hDc : va_D A ([hq_o4 b wa sa ca ru, hq_ai wa (G 0) n wt, hq_al sa (G 1) n su, hq_al ca (G 1) n sc] ++ ([(h, .inr (7, fs))] ++ Z)) := va_D.part (cx := [hq_o4 b wa sa ca ru, hq_ai wa (G 0) n wt, hq_al sa (G 1) n su, hq_al ca (G 1) n sc, (h, .inr (7, fs))]) hD [1, 2, 3, 4, 0] (by decide) rfl
  refine hq_iF (hq_rV (As := [.int x]) (rest := []) hx hb hml hown hts (c_Table_has l D G A ([(h, .inr (7, fs))] ++ Z) b wa sa ca n wt su sc ru x) yy_Table_has lk_H_159 hA hK hN hS hPc hDc 0 4 rfl rfl rfl hl.1 rfl (Nat.le_of_ble_eq_true rfl) d_H_weight_5 ⟨by decide, by decide⟩ ⟨by decide, by decide⟩) hS (fun H locs hP hD hS => ?_)
  have hP : va_P D hq_cl ([hq_o4 b wa sa ca ru, hq_ai wa (G 0) n wt, hq_al sa (G 1) n su, hq_al ca (G 1) n sc, (h, .inr (7, fs))] ++ Z) H := hP
  have hD : va_D A ([hq_o4 b wa sa ca ru, hq_ai wa (G 0) n wt, hq_al sa (G 1) n su, hq_al ca (G 1) n sc, (h, .inr (7, fs))] ++ Z) := hD
  refine lv_if_eq (tgt := 23) hx hb d_H_weight_8 rfl (fun c8 => ?_) (fun c8 => ?_)
  · -- 8 taken
    have c8 : ¬ (f_Table_has n x) = true := by rw [hq_z0.mp c8]; decide
    refine lv_iconst (v := 0) hx hb d_H_weight_23 (by decide) ?_
    have hP := va_P.part (cx := [(h, .inr (7, fs)), hq_o4 b wa sa ca ru, hq_ai wa (G 0) n wt, hq_al sa (G 1) n su, hq_al ca (G 1) n sc]) hP [4, 0, 1, 2, 3] rfl
    have hD := va_D.part (cx := [(h, .inr (7, fs)), hq_o4 b wa sa ca ru, hq_ai wa (G 0) n wt, hq_al sa (G 1) n su, hq_al ca (G 1) n sc]) hD [4, 0, 1, 2, 3] (by decide) rfl
    exact hret 0 () H locs 24 ls d_H_weight_24 (by rw [hq_has_no c8]) hP hD hS
  · -- 8 not taken
    have c8 : (f_Table_has n x) = true := hq_zn.mp c8
    obtain ⟨j, hj, rfl⟩ := hq_has_of (by omega) c8
    · skip
      refine lv_aload_n hx hb d_H_weight_11 rfl (lv_at hl 0 rfl) ?_
      refine va_get (D := D) (ci := 7) (v := .ref b) (C := R_H) (T := F_H) (N := 14) hx hb hts uw_H hown hK hP 4 rfl rfl 10 (by decide) (hts _ fl_H_81) (fun _ h9 => h9) hf10 d_H_weight_12 ?_
      refine va_get (D := D) (ci := 4) (v := .ref wa) (C := R_Table) (T := F_Table) (N := 4) hx hb hts uw_Table hown hK hP 0 rfl rfl 0 (by decide) (hts _ fl_H_162) (fun _ h9 => h9) rfl d_H_weight_15 ?_
      refine lv_iload_n hx hb d_H_weight_18 rfl (lv_at hl 1 rfl) ?_
      refine hq_iald (j := j) hx hb hK hP 1 rfl (by omega) (by omega) d_H_weight_19 ?_
      refine lv_goto (tgt := 24) hx hb d_H_weight_20 rfl ?_
      have hP := va_P.part (cx := [(h, .inr (7, fs)), hq_o4 b wa sa ca ru, hq_ai wa (G 0) n wt, hq_al sa (G 1) n su, hq_al ca (G 1) n sc]) hP [4, 0, 1, 2, 3] rfl
      have hD := va_D.part (cx := [(h, .inr (7, fs)), hq_o4 b wa sa ca ru, hq_ai wa (G 0) n wt, hq_al sa (G 1) n su, hq_al ca (G 1) n sc]) hD [4, 0, 1, 2, 3] (by decide) rfl
      exact hret (wt j) () H locs 24 ls d_H_weight_24 (by rw [hq_get_in hj (by omega)]) hP hD hS
theorem d_H_sum_0 : decode b_H_sum 0 = .ok (.aload_n 0, 1) := by decide +kernel
theorem d_H_sum_1 : decode b_H_sum 1 = .ok (.getfield 81, 3) := by decide +kernel
theorem d_H_sum_4 : decode b_H_sum 4 = .ok (.iload_n 1, 1) := by decide +kernel
theorem d_H_sum_5 : decode b_H_sum 5 = .ok (.invokevirtual 159, 3) := by decide +kernel
theorem d_H_sum_8 : decode b_H_sum 8 = .ok (.ifCond .eq (15), 3) := by decide +kernel
theorem d_H_sum_11 : decode b_H_sum 11 = .ok (.aload_n 0, 1) := by decide +kernel
theorem d_H_sum_12 : decode b_H_sum 12 = .ok (.getfield 81, 3) := by decide +kernel
theorem d_H_sum_15 : decode b_H_sum 15 = .ok (.getfield 165, 3) := by decide +kernel
theorem d_H_sum_18 : decode b_H_sum 18 = .ok (.iload_n 1, 1) := by decide +kernel
theorem d_H_sum_19 : decode b_H_sum 19 = .ok (.laload, 1) := by decide +kernel
theorem d_H_sum_20 : decode b_H_sum 20 = .ok (.goto (4), 3) := by decide +kernel
theorem d_H_sum_23 : decode b_H_sum 23 = .ok (.lconst 0, 1) := by decide +kernel
theorem d_H_sum_24 : decode b_H_sum 24 = .ok (.lreturn, 1) := by decide +kernel
set_option maxHeartbeats 4000000 in
set_option maxRecDepth 100000 in
theorem c_H_sum (l : Launch) (D : va_G) (G : Nat → ClassId) (A : Nat → Prop) (Z : va_W) (h : Nat) (fs : List Value) (b : Nat) (wa : Nat) (sa : Nat) (ca : Nat) (n : Nat) (wt : Nat → Int32) (su : Nat → Int64) (sc : Nat → Int64) (ru : Int32) (x : Int32) (hf10 : fs[10]? = some (.ref b)) (hn : hq_pow n) : hq_FL l D G A y_H_sum b_H_sum 2 1 [.ref h, .int x] ([(h, .inr (7, fs)), hq_o4 b wa sa ca ru, hq_ai wa (G 0) n wt, hq_al sa (G 1) n su, hq_al ca (G 1) n sc] ++ Z) (hq_get su n x 0) ([(h, .inr (7, fs)), hq_o4 b wa sa ca ru, hq_ai wa (G 0) n wt, hq_al sa (G 1) n su, hq_al ca (G 1) n sc] ++ Z) := by
  refine hq_bL (by decide) (Nat.le_of_ble_eq_true rfl) ?_
  intro p e s m args below meth c Q hx hb hml hts hown hA hK hN hret ls H locs hl hP hD hS
  have hown : s.vm.findClass "HashedLearner" = some m.cls := hown
  have hl : lv_has ls 2 [(0, .ref h), (1, .int x)] := hl
  have hn31 := hq_pow_lt hn
  refine lv_aload_n hx hb d_H_sum_0 rfl (lv_at hl 0 rfl) ?_
  refine va_get (D := D) (ci := 7) (v := .ref b) (C := R_H) (T := F_H) (N := 14) hx hb hts uw_H hown hK hP 0 rfl rfl 10 (by decide) (hts _ fl_H_81) (fun _ h9 => h9) hf10 d_H_sum_1 ?_
  refine lv_iload_n hx hb d_H_sum_4 rfl (lv_at hl 1 rfl) ?_
  have hPc : va_P D hq_cl ([hq_o4 b wa sa ca ru, hq_ai wa (G 0) n wt, hq_al sa (G 1) n su, hq_al ca (G 1) n sc] ++ ([(h, .inr (7, fs))] ++ Z)) H := va_P.part (cx := [hq_o4 b wa sa ca ru, hq_ai wa (G 0) n wt, hq_al sa (G 1) n su, hq_al ca (G 1) n sc, (h, .inr (7, fs))]) hP [1, 2, 3, 4, 0] rfl
  have hDc : va_D A ([hq_o4 b wa sa ca ru, hq_ai wa (G 0) n wt, hq_al sa (G 1) n su, hq_al ca (G 1) n sc] ++ ([(h, .inr (7, fs))] ++ Z)) := va_D.part (cx := [hq_o4 b wa sa ca ru, hq_ai wa (G 0) n wt, hq_al sa (G 1) n su, hq_al ca (G 1) n sc, (h, .inr (7, fs))]) hD [1, 2, 3, 4, 0] (by decide) rfl
  refine hq_iF (hq_rV (As := [.int x]) (rest := []) hx hb hml hown hts (c_Table_has l D G A ([(h, .inr (7, fs))] ++ Z) b wa sa ca n wt su sc ru x) yy_Table_has lk_H_159 hA hK hN hS hPc hDc 0 4 rfl rfl rfl hl.1 rfl (Nat.le_of_ble_eq_true rfl) d_H_sum_5 ⟨by decide, by decide⟩ ⟨by decide, by decide⟩) hS (fun H locs hP hD hS => ?_)
  have hP : va_P D hq_cl ([hq_o4 b wa sa ca ru, hq_ai wa (G 0) n wt, hq_al sa (G 1) n su, hq_al ca (G 1) n sc, (h, .inr (7, fs))] ++ Z) H := hP
  have hD : va_D A ([hq_o4 b wa sa ca ru, hq_ai wa (G 0) n wt, hq_al sa (G 1) n su, hq_al ca (G 1) n sc, (h, .inr (7, fs))] ++ Z) := hD
  refine lv_if_eq (tgt := 23) hx hb d_H_sum_8 rfl (fun c8 => ?_) (fun c8 => ?_)
  · -- 8 taken
    have c8 : ¬ (f_Table_has n x) = true := by rw [hq_z0.mp c8]; decide
    refine lv_lconst (v := 0) hx hb d_H_sum_23 (by decide) ?_
    have hP := va_P.part (cx := [(h, .inr (7, fs)), hq_o4 b wa sa ca ru, hq_ai wa (G 0) n wt, hq_al sa (G 1) n su, hq_al ca (G 1) n sc]) hP [4, 0, 1, 2, 3] rfl
    have hD := va_D.part (cx := [(h, .inr (7, fs)), hq_o4 b wa sa ca ru, hq_ai wa (G 0) n wt, hq_al sa (G 1) n su, hq_al ca (G 1) n sc]) hD [4, 0, 1, 2, 3] (by decide) rfl
    exact hret 0 () H locs 24 ls d_H_sum_24 (by rw [hq_has_no c8]) hP hD hS
  · -- 8 not taken
    have c8 : (f_Table_has n x) = true := hq_zn.mp c8
    obtain ⟨j, hj, rfl⟩ := hq_has_of (by omega) c8
    · skip
      refine lv_aload_n hx hb d_H_sum_11 rfl (lv_at hl 0 rfl) ?_
      refine va_get (D := D) (ci := 7) (v := .ref b) (C := R_H) (T := F_H) (N := 14) hx hb hts uw_H hown hK hP 4 rfl rfl 10 (by decide) (hts _ fl_H_81) (fun _ h9 => h9) hf10 d_H_sum_12 ?_
      refine va_get (D := D) (ci := 4) (v := .ref sa) (C := R_Table) (T := F_Table) (N := 4) hx hb hts uw_Table hown hK hP 0 rfl rfl 1 (by decide) (hts _ fl_H_165) (fun _ h9 => h9) rfl d_H_sum_15 ?_
      refine lv_iload_n hx hb d_H_sum_18 rfl (lv_at hl 1 rfl) ?_
      refine hq_lald (j := j) hx hb hK hP 2 rfl (by omega) (by omega) d_H_sum_19 ?_
      refine lv_goto (tgt := 24) hx hb d_H_sum_20 rfl ?_
      have hP := va_P.part (cx := [(h, .inr (7, fs)), hq_o4 b wa sa ca ru, hq_ai wa (G 0) n wt, hq_al sa (G 1) n su, hq_al ca (G 1) n sc]) hP [4, 0, 1, 2, 3] rfl
      have hD := va_D.part (cx := [(h, .inr (7, fs)), hq_o4 b wa sa ca ru, hq_ai wa (G 0) n wt, hq_al sa (G 1) n su, hq_al ca (G 1) n sc]) hD [4, 0, 1, 2, 3] (by decide) rfl
      exact hret (su j) () H locs 24 ls d_H_sum_24 (by rw [hq_get_in hj (by omega)]) hP hD hS
theorem d_H_scale_0 : decode b_H_scale 0 = .ok (.aload_n 0, 1) := by decide +kernel
theorem d_H_scale_1 : decode b_H_scale 1 = .ok (.getfield 81, 3) := by decide +kernel
theorem d_H_scale_4 : decode b_H_scale 4 = .ok (.iload_n 1, 1) := by decide +kernel
theorem d_H_scale_5 : decode b_H_scale 5 = .ok (.invokevirtual 159, 3) := by decide +kernel
theorem d_H_scale_8 : decode b_H_scale 8 = .ok (.ifCond .eq (15), 3) := by decide +kernel
theorem d_H_scale_11 : decode b_H_scale 11 = .ok (.aload_n 0, 1) := by decide +kernel
theorem d_H_scale_12 : decode b_H_scale 12 = .ok (.getfield 81, 3) := by decide +kernel
theorem d_H_scale_15 : decode b_H_scale 15 = .ok (.getfield 169, 3) := by decide +kernel
theorem d_H_scale_18 : decode b_H_scale 18 = .ok (.iload_n 1, 1) := by decide +kernel
theorem d_H_scale_19 : decode b_H_scale 19 = .ok (.laload, 1) := by decide +kernel
theorem d_H_scale_20 : decode b_H_scale 20 = .ok (.goto (4), 3) := by decide +kernel
theorem d_H_scale_23 : decode b_H_scale 23 = .ok (.lconst 0, 1) := by decide +kernel
theorem d_H_scale_24 : decode b_H_scale 24 = .ok (.lreturn, 1) := by decide +kernel
set_option maxHeartbeats 4000000 in
set_option maxRecDepth 100000 in
theorem c_H_scale (l : Launch) (D : va_G) (G : Nat → ClassId) (A : Nat → Prop) (Z : va_W) (h : Nat) (fs : List Value) (b : Nat) (wa : Nat) (sa : Nat) (ca : Nat) (n : Nat) (wt : Nat → Int32) (su : Nat → Int64) (sc : Nat → Int64) (ru : Int32) (x : Int32) (hf10 : fs[10]? = some (.ref b)) (hn : hq_pow n) : hq_FL l D G A y_H_scale b_H_scale 2 1 [.ref h, .int x] ([(h, .inr (7, fs)), hq_o4 b wa sa ca ru, hq_ai wa (G 0) n wt, hq_al sa (G 1) n su, hq_al ca (G 1) n sc] ++ Z) (hq_get sc n x 0) ([(h, .inr (7, fs)), hq_o4 b wa sa ca ru, hq_ai wa (G 0) n wt, hq_al sa (G 1) n su, hq_al ca (G 1) n sc] ++ Z) := by
  refine hq_bL (by decide) (Nat.le_of_ble_eq_true rfl) ?_
  intro p e s m args below meth c Q hx hb hml hts hown hA hK hN hret ls H locs hl hP hD hS
  have hown : s.vm.findClass "HashedLearner" = some m.cls := hown
  have hl : lv_has ls 2 [(0, .ref h), (1, .int x)] := hl
  have hn31 := hq_pow_lt hn
  refine lv_aload_n hx hb d_H_scale_0 rfl (lv_at hl 0 rfl) ?_
  refine va_get (D := D) (ci := 7) (v := .ref b) (C := R_H) (T := F_H) (N := 14) hx hb hts uw_H hown hK hP 0 rfl rfl 10 (by decide) (hts _ fl_H_81) (fun _ h9 => h9) hf10 d_H_scale_1 ?_
  refine lv_iload_n hx hb d_H_scale_4 rfl (lv_at hl 1 rfl) ?_
  have hPc : va_P D hq_cl ([hq_o4 b wa sa ca ru, hq_ai wa (G 0) n wt, hq_al sa (G 1) n su, hq_al ca (G 1) n sc] ++ ([(h, .inr (7, fs))] ++ Z)) H := va_P.part (cx := [hq_o4 b wa sa ca ru, hq_ai wa (G 0) n wt, hq_al sa (G 1) n su, hq_al ca (G 1) n sc, (h, .inr (7, fs))]) hP [1, 2, 3, 4, 0] rfl
  have hDc : va_D A ([hq_o4 b wa sa ca ru, hq_ai wa (G 0) n wt, hq_al sa (G 1) n su, hq_al ca (G 1) n sc] ++ ([(h, .inr (7, fs))] ++ Z)) := va_D.part (cx := [hq_o4 b wa sa ca ru, hq_ai wa (G 0) n wt, hq_al sa (G 1) n su, hq_al ca (G 1) n sc, (h, .inr (7, fs))]) hD [1, 2, 3, 4, 0] (by decide) rfl
  refine hq_iF (hq_rV (As := [.int x]) (rest := []) hx hb hml hown hts (c_Table_has l D G A ([(h, .inr (7, fs))] ++ Z) b wa sa ca n wt su sc ru x) yy_Table_has lk_H_159 hA hK hN hS hPc hDc 0 4 rfl rfl rfl hl.1 rfl (Nat.le_of_ble_eq_true rfl) d_H_scale_5 ⟨by decide, by decide⟩ ⟨by decide, by decide⟩) hS (fun H locs hP hD hS => ?_)
  have hP : va_P D hq_cl ([hq_o4 b wa sa ca ru, hq_ai wa (G 0) n wt, hq_al sa (G 1) n su, hq_al ca (G 1) n sc, (h, .inr (7, fs))] ++ Z) H := hP
  have hD : va_D A ([hq_o4 b wa sa ca ru, hq_ai wa (G 0) n wt, hq_al sa (G 1) n su, hq_al ca (G 1) n sc, (h, .inr (7, fs))] ++ Z) := hD
  refine lv_if_eq (tgt := 23) hx hb d_H_scale_8 rfl (fun c8 => ?_) (fun c8 => ?_)
  · -- 8 taken
    have c8 : ¬ (f_Table_has n x) = true := by rw [hq_z0.mp c8]; decide
    refine lv_lconst (v := 0) hx hb d_H_scale_23 (by decide) ?_
    have hP := va_P.part (cx := [(h, .inr (7, fs)), hq_o4 b wa sa ca ru, hq_ai wa (G 0) n wt, hq_al sa (G 1) n su, hq_al ca (G 1) n sc]) hP [4, 0, 1, 2, 3] rfl
    have hD := va_D.part (cx := [(h, .inr (7, fs)), hq_o4 b wa sa ca ru, hq_ai wa (G 0) n wt, hq_al sa (G 1) n su, hq_al ca (G 1) n sc]) hD [4, 0, 1, 2, 3] (by decide) rfl
    exact hret 0 () H locs 24 ls d_H_scale_24 (by rw [hq_has_no c8]) hP hD hS
  · -- 8 not taken
    have c8 : (f_Table_has n x) = true := hq_zn.mp c8
    obtain ⟨j, hj, rfl⟩ := hq_has_of (by omega) c8
    · skip
      refine lv_aload_n hx hb d_H_scale_11 rfl (lv_at hl 0 rfl) ?_
      refine va_get (D := D) (ci := 7) (v := .ref b) (C := R_H) (T := F_H) (N := 14) hx hb hts uw_H hown hK hP 4 rfl rfl 10 (by decide) (hts _ fl_H_81) (fun _ h9 => h9) hf10 d_H_scale_12 ?_
      refine va_get (D := D) (ci := 4) (v := .ref ca) (C := R_Table) (T := F_Table) (N := 4) hx hb hts uw_Table hown hK hP 0 rfl rfl 2 (by decide) (hts _ fl_H_169) (fun _ h9 => h9) rfl d_H_scale_15 ?_
      refine lv_iload_n hx hb d_H_scale_18 rfl (lv_at hl 1 rfl) ?_
      refine hq_lald (j := j) hx hb hK hP 3 rfl (by omega) (by omega) d_H_scale_19 ?_
      refine lv_goto (tgt := 24) hx hb d_H_scale_20 rfl ?_
      have hP := va_P.part (cx := [(h, .inr (7, fs)), hq_o4 b wa sa ca ru, hq_ai wa (G 0) n wt, hq_al sa (G 1) n su, hq_al ca (G 1) n sc]) hP [4, 0, 1, 2, 3] rfl
      have hD := va_D.part (cx := [(h, .inr (7, fs)), hq_o4 b wa sa ca ru, hq_ai wa (G 0) n wt, hq_al sa (G 1) n su, hq_al ca (G 1) n sc]) hD [4, 0, 1, 2, 3] (by decide) rfl
      exact hret (sc j) () H locs 24 ls d_H_scale_24 (by rw [hq_get_in hj (by omega)]) hP hD hS
theorem d_H_waiting_0 : decode b_H_waiting 0 = .ok (.aload_n 0, 1) := by decide +kernel
theorem d_H_waiting_1 : decode b_H_waiting 1 = .ok (.getfield 33, 3) := by decide +kernel
theorem d_H_waiting_4 : decode b_H_waiting 4 = .ok (.ireturn, 1) := by decide +kernel
set_option maxHeartbeats 4000000 in
set_option maxRecDepth 100000 in
theorem c_H_waiting (l : Launch) (D : va_G) (G : Nat → ClassId) (A : Nat → Prop) (Z : va_W) (h : Nat) (fs : List Value) (hd : Nat) (hf4 : fs[4]? = some (.int (nI hd))) : hq_FI l D G A y_H_waiting b_H_waiting 1 .int 0 [.ref h] ([(h, .inr (7, fs))] ++ Z) (nI hd) ([(h, .inr (7, fs))] ++ Z) := by
  refine hq_bI (by decide) (Nat.le_of_ble_eq_true rfl) (fun _ _ _ => rfl) ?_
  intro p e s m args below meth c Q hx hb hml hts hown hA hK hN hret ls H locs hl hP hD hS
  have hown : s.vm.findClass "HashedLearner" = some m.cls := hown
  have hl : lv_has ls 1 [(0, .ref h)] := hl
  refine lv_aload_n hx hb d_H_waiting_0 rfl (lv_at hl 0 rfl) ?_
  refine va_get (D := D) (ci := 7) (v := .int (nI hd)) (C := R_H) (T := F_H) (N := 14) hx hb hts uw_H hown hK hP 0 rfl rfl 4 (by decide) (hts _ fl_H_33) (fun _ h9 => h9) hf4 d_H_waiting_1 ?_
  exact hret (nI hd) () H locs 4 ls d_H_waiting_4 (rfl) hP hD hS
theorem d_H_warnings_0 : decode b_H_warnings 0 = .ok (.aload_n 0, 1) := by decide +kernel
theorem d_H_warnings_1 : decode b_H_warnings 1 = .ok (.getfield 66, 3) := by decide +kernel
theorem d_H_warnings_4 : decode b_H_warnings 4 = .ok (.ireturn, 1) := by decide +kernel
set_option maxHeartbeats 4000000 in
set_option maxRecDepth 100000 in
theorem c_H_warnings (l : Launch) (D : va_G) (G : Nat → ClassId) (A : Nat → Prop) (Z : va_W) (h : Nat) (fs : List Value) (wc : Int32) (hf13 : fs[13]? = some (.int wc)) : hq_FI l D G A y_H_warnings b_H_warnings 1 .int 0 [.ref h] ([(h, .inr (7, fs))] ++ Z) (wc) ([(h, .inr (7, fs))] ++ Z) := by
  refine hq_bI (by decide) (Nat.le_of_ble_eq_true rfl) (fun _ _ _ => rfl) ?_
  intro p e s m args below meth c Q hx hb hml hts hown hA hK hN hret ls H locs hl hP hD hS
  have hown : s.vm.findClass "HashedLearner" = some m.cls := hown
  have hl : lv_has ls 1 [(0, .ref h)] := hl
  refine lv_aload_n hx hb d_H_warnings_0 rfl (lv_at hl 0 rfl) ?_
  refine va_get (D := D) (ci := 7) (v := .int wc) (C := R_H) (T := F_H) (N := 14) hx hb hts uw_H hown hK hP 0 rfl rfl 13 (by decide) (hts _ fl_H_66) (fun _ h9 => h9) hf13 d_H_warnings_1 ?_
  exact hret wc () H locs 4 ls d_H_warnings_4 (rfl) hP hD hS
theorem d_H_loss_0 : decode b_H_loss 0 = .ok (.aload_n 0, 1) := by decide +kernel
theorem d_H_loss_1 : decode b_H_loss 1 = .ok (.getfield 52, 3) := by decide +kernel
theorem d_H_loss_4 : decode b_H_loss 4 = .ok (.getfield 176, 3) := by decide +kernel
theorem d_H_loss_7 : decode b_H_loss 7 = .ok (.lreturn, 1) := by decide +kernel
set_option maxHeartbeats 4000000 in
set_option maxRecDepth 100000 in
theorem c_H_loss (l : Launch) (D : va_G) (G : Nat → ClassId) (A : Nat → Prop) (Z : va_W) (h : Nat) (fs : List Value) (tl : Nat) (ra : Nat) (rp : Nat → Int64) (rc : Nat) (tt : Int64) (es : Int32) (cs : Int64) (is : Int64) (hf9 : fs[9]? = some (.ref tl)) : hq_FL l D G A y_H_loss b_H_loss 1 0 [.ref h] ([(h, .inr (7, fs)), hq_o5 tl ra (nI rc) tt es cs is, hq_al ra (G 1) 31 rp] ++ Z) (tt) ([(h, .inr (7, fs)), hq_o5 tl ra (nI rc) tt es cs is, hq_al ra (G 1) 31 rp] ++ Z) := by
  refine hq_bL (by decide) (Nat.le_of_ble_eq_true rfl) ?_
  intro p e s m args below meth c Q hx hb hml hts hown hA hK hN hret ls H locs hl hP hD hS
  have hown : s.vm.findClass "HashedLearner" = some m.cls := hown
  have hl : lv_has ls 1 [(0, .ref h)] := hl
  refine lv_aload_n hx hb d_H_loss_0 rfl (lv_at hl 0 rfl) ?_
  refine va_get (D := D) (ci := 7) (v := .ref tl) (C := R_H) (T := F_H) (N := 14) hx hb hts uw_H hown hK hP 0 rfl rfl 9 (by decide) (hts _ fl_H_52) (fun _ h9 => h9) hf9 d_H_loss_1 ?_
  refine va_get (D := D) (ci := 5) (v := .long tt) (C := R_Tally) (T := F_Tally) (N := 6) hx hb hts uw_Tally hown hK hP 1 rfl rfl 2 (by decide) (hts _ fl_H_176) (fun _ h9 => h9) rfl d_H_loss_4 ?_
  exact hret tt () H locs 7 ls d_H_loss_7 (rfl) hP hD hS
theorem d_H_report_0 : decode b_H_report 0 = .ok (.iload_n 1, 1) := by decide +kernel
theorem d_H_report_1 : decode b_H_report 1 = .ok (.iconst (-1), 1) := by decide +kernel
theorem d_H_report_2 : decode b_H_report 2 = .ok (.if_icmp .ne (12), 3) := by decide +kernel
theorem d_H_report_5 : decode b_H_report 5 = .ok (.aload_n 0, 1) := by decide +kernel
theorem d_H_report_6 : decode b_H_report 6 = .ok (.getfield 52, 3) := by decide +kernel
theorem d_H_report_9 : decode b_H_report 9 = .ok (.getfield 180, 3) := by decide +kernel
theorem d_H_report_12 : decode b_H_report 12 = .ok (.i2l, 1) := by decide +kernel
theorem d_H_report_13 : decode b_H_report 13 = .ok (.lreturn, 1) := by decide +kernel
theorem d_H_report_14 : decode b_H_report 14 = .ok (.iload_n 1, 1) := by decide +kernel
theorem d_H_report_15 : decode b_H_report 15 = .ok (.ifCond .lt (26), 3) := by decide +kernel
theorem d_H_report_18 : decode b_H_report 18 = .ok (.iload_n 1, 1) := by decide +kernel
theorem d_H_report_19 : decode b_H_report 19 = .ok (.aload_n 0, 1) := by decide +kernel
theorem d_H_report_20 : decode b_H_report 20 = .ok (.getfield 52, 3) := by decide +kernel
theorem d_H_report_23 : decode b_H_report 23 = .ok (.getfield 180, 3) := by decide +kernel
theorem d_H_report_26 : decode b_H_report 26 = .ok (.if_icmp .ge (15), 3) := by decide +kernel
theorem d_H_report_29 : decode b_H_report 29 = .ok (.aload_n 0, 1) := by decide +kernel
theorem d_H_report_30 : decode b_H_report 30 = .ok (.getfield 52, 3) := by decide +kernel
theorem d_H_report_33 : decode b_H_report 33 = .ok (.getfield 183, 3) := by decide +kernel
theorem d_H_report_36 : decode b_H_report 36 = .ok (.iload_n 1, 1) := by decide +kernel
theorem d_H_report_37 : decode b_H_report 37 = .ok (.laload, 1) := by decide +kernel
theorem d_H_report_38 : decode b_H_report 38 = .ok (.goto (6), 3) := by decide +kernel
theorem d_H_report_41 : decode b_H_report 41 = .ok (.ldc2_w 186, 3) := by decide +kernel
theorem d_H_report_44 : decode b_H_report 44 = .ok (.lreturn, 1) := by decide +kernel
set_option maxHeartbeats 4000000 in
set_option maxRecDepth 100000 in
theorem c_H_report (l : Launch) (D : va_G) (G : Nat → ClassId) (A : Nat → Prop) (Z : va_W) (h : Nat) (fs : List Value) (tl : Nat) (ra : Nat) (rp : Nat → Int64) (rc : Nat) (tt : Int64) (es : Int32) (cs : Int64) (is : Int64) (x : Int32) (hf9 : fs[9]? = some (.ref tl)) (hrc : rc ≤ 31) : hq_FL l D G A y_H_report b_H_report 2 0 [.ref h, .int x] ([(h, .inr (7, fs)), hq_o5 tl ra (nI rc) tt es cs is, hq_al ra (G 1) 31 rp] ++ Z) (hq_rep1 rp rc x) ([(h, .inr (7, fs)), hq_o5 tl ra (nI rc) tt es cs is, hq_al ra (G 1) 31 rp] ++ Z) := by
  refine hq_bL (by decide) (Nat.le_of_ble_eq_true rfl) ?_
  intro p e s m args below meth c Q hx hb hml hts hown hA hK hN hret ls H locs hl hP hD hS
  have hown : s.vm.findClass "HashedLearner" = some m.cls := hown
  have hl : lv_has ls 2 [(0, .ref h), (1, .int x)] := hl
  refine lv_iload_n hx hb d_H_report_0 rfl (lv_at hl 1 rfl) ?_
  refine lv_iconst (v := (-1)) hx hb d_H_report_1 (by decide) ?_
  refine lv_icmp_ne (tgt := 14) hx hb d_H_report_2 rfl (fun c2 => ?_) (fun c2 => ?_)
  · -- 2 taken
    have c2 : ¬ x = (-1) := c2
    refine lv_iload_n hx hb d_H_report_14 rfl (lv_at hl 1 rfl) ?_
    refine lv_if_lt (tgt := 41) hx hb d_H_report_15 rfl (fun c15 => ?_) (fun c15 => ?_)
    · -- 15 taken
      have c15 : x < 0 := c15
      refine lv_ldc2 (v := (-1)) hx hb hown (hts _ kl_H_186) d_H_report_41 ?_
      exact hret (-1) () H locs 44 ls d_H_report_44 (by rw [hq_rep1, if_neg c2, hq_get_neg c15]) hP hD hS
    · -- 15 not taken
      have c15 : ¬ x < 0 := c15
      refine lv_iload_n hx hb d_H_report_18 rfl (lv_at hl 1 rfl) ?_
      refine lv_aload_n hx hb d_H_report_19 rfl (lv_at hl 0 rfl) ?_
      refine va_get (D := D) (ci := 7) (v := .ref tl) (C := R_H) (T := F_H) (N := 14) hx hb hts uw_H hown hK hP 0 rfl rfl 9 (by decide) (hts _ fl_H_52) (fun _ h9 => h9) hf9 d_H_report_20 ?_
      refine va_get (D := D) (ci := 5) (v := .int (nI rc)) (C := R_Tally) (T := F_Tally) (N := 6) hx hb hts uw_Tally hown hK hP 1 rfl rfl 1 (by decide) (hts _ fl_H_180) (fun _ h9 => h9) rfl d_H_report_23 ?_
      refine lv_icmp_ge (tgt := 41) hx hb d_H_report_26 rfl (fun c26 => ?_) (fun c26 => ?_)
      · -- 26 taken
        have c26 : (nI rc) ≤ x := c26
        refine lv_ldc2 (v := (-1)) hx hb hown (hts _ kl_H_186) d_H_report_41 ?_
        exact hret (-1) () H locs 44 ls d_H_report_44 (by rw [hq_rep1, if_neg c2, hq_get_big c26]) hP hD hS
      · -- 26 not taken
        have c26 : ¬ (nI rc) ≤ x := c26
        obtain ⟨j, hj, rfl⟩ := hq_ix c15 c26 (by omega)
        · skip
          refine lv_aload_n hx hb d_H_report_29 rfl (lv_at hl 0 rfl) ?_
          refine va_get (D := D) (ci := 7) (v := .ref tl) (C := R_H) (T := F_H) (N := 14) hx hb hts uw_H hown hK hP 0 rfl rfl 9 (by decide) (hts _ fl_H_52) (fun _ h9 => h9) hf9 d_H_report_30 ?_
          refine va_get (D := D) (ci := 5) (v := .ref ra) (C := R_Tally) (T := F_Tally) (N := 6) hx hb hts uw_Tally hown hK hP 1 rfl rfl 0 (by decide) (hts _ fl_H_183) (fun _ h9 => h9) rfl d_H_report_33 ?_
          refine lv_iload_n hx hb d_H_report_36 rfl (lv_at hl 1 rfl) ?_
          refine hq_lald (j := j) hx hb hK hP 2 rfl (by omega) (by omega) d_H_report_37 ?_
          refine lv_goto (tgt := 44) hx hb d_H_report_38 rfl ?_
          exact hret (rp j) () H locs 44 ls d_H_report_44 (by rw [hq_rep1, if_neg c2, hq_get_in hj (by omega)]) hP hD hS
  · -- 2 not taken
    have c2 : x = (-1) := c2
    refine lv_aload_n hx hb d_H_report_5 rfl (lv_at hl 0 rfl) ?_
    refine va_get (D := D) (ci := 7) (v := .ref tl) (C := R_H) (T := F_H) (N := 14) hx hb hts uw_H hown hK hP 0 rfl rfl 9 (by decide) (hts _ fl_H_52) (fun _ h9 => h9) hf9 d_H_report_6 ?_
    refine va_get (D := D) (ci := 5) (v := .int (nI rc)) (C := R_Tally) (T := F_Tally) (N := 6) hx hb hts uw_Tally hown hK hP 1 rfl rfl 1 (by decide) (hts _ fl_H_180) (fun _ h9 => h9) rfl d_H_report_9 ?_
    refine lv_i2l (v := Int32.toInt64 (nI rc)) hx hb d_H_report_12 rfl ?_
    exact hret (Int32.toInt64 (nI rc)) () H locs 13 ls d_H_report_13 (by rw [hq_rep1, if_pos c2]) hP hD hS
theorem d_H_write_0 : decode b_H_write 0 = .ok (.aload_n 0, 1) := by decide +kernel
theorem d_H_write_1 : decode b_H_write 1 = .ok (.getfield 12, 3) := by decide +kernel
theorem d_H_write_4 : decode b_H_write 4 = .ok (.iload_n 1, 1) := by decide +kernel
theorem d_H_write_5 : decode b_H_write 5 = .ok (.invokevirtual 86, 3) := by decide +kernel
theorem d_H_write_8 : decode b_H_write 8 = .ok (.ireturn, 1) := by decide +kernel
set_option maxHeartbeats 4000000 in
set_option maxRecDepth 100000 in
theorem c_H_write (l : Launch) (D : va_G) (G : Nat → ClassId) (A : Nat → Prop) (Z : va_W) (h : Nat) (fs : List Value) (lna : Nat) (ta : Nat) (t : Nat → Int32) (len : Nat) (ne : Int32) (pn : Int32) (lt : Int32) (sd : Int32) (fc : Int32) (ch : Int32) (hf0 : fs[0]? = some (.ref lna)) (hlen : len ≤ 100) : hq_FI l D G A y_H_write b_H_write 2 .boolean 2 [.ref h, .int ch] ([(h, .inr (7, fs)), hq_o2 lna ta (nI len) ne pn lt sd fc, hq_ai ta (G 2) 100 t] ++ Z) (hq_z (f_Line_append t len ch)) ([(h, .inr (7, fs)), hq_o2 lna ta (nI (f_Line_append_o1 t len ch)) ne pn lt sd fc, hq_ai ta (G 2) 100 (f_Line_append_o2 t len ch)] ++ Z) := by
  refine hq_bI (by decide) (Nat.le_of_ble_eq_true rfl) (fun r u h => by rw [h]; exact hq_znar _) ?_
  intro p e s m args below meth c Q hx hb hml hts hown hA hK hN hret ls H locs hl hP hD hS
  have hown : s.vm.findClass "HashedLearner" = some m.cls := hown
  have hl : lv_has ls 2 [(0, .ref h), (1, .int ch)] := hl
  refine lv_aload_n hx hb d_H_write_0 rfl (lv_at hl 0 rfl) ?_
  refine va_get (D := D) (ci := 7) (v := .ref lna) (C := R_H) (T := F_H) (N := 14) hx hb hts uw_H hown hK hP 0 rfl rfl 0 (by decide) (hts _ fl_H_12) (fun _ h9 => h9) hf0 d_H_write_1 ?_
  refine lv_iload_n hx hb d_H_write_4 rfl (lv_at hl 1 rfl) ?_
  have hPc : va_P D hq_cl ([hq_o2 lna ta (nI len) ne pn lt sd fc, hq_ai ta (G 2) 100 t] ++ ([(h, .inr (7, fs))] ++ Z)) H := va_P.part (cx := [hq_o2 lna ta (nI len) ne pn lt sd fc, hq_ai ta (G 2) 100 t, (h, .inr (7, fs))]) hP [1, 2, 0] rfl
  have hDc : va_D A ([hq_o2 lna ta (nI len) ne pn lt sd fc, hq_ai ta (G 2) 100 t] ++ ([(h, .inr (7, fs))] ++ Z)) := va_D.part (cx := [hq_o2 lna ta (nI len) ne pn lt sd fc, hq_ai ta (G 2) 100 t, (h, .inr (7, fs))]) hD [1, 2, 0] (by decide) rfl
  refine hq_iF (hq_rV (As := [.int ch]) (rest := []) hx hb hml hown hts (c_Line_append l D G A ([(h, .inr (7, fs))] ++ Z) lna ta t len ne pn lt sd fc ch (by first | assumption | omega)) yy_Line_append lk_H_86 hA hK hN hS hPc hDc 0 2 rfl rfl rfl hl.1 rfl (Nat.le_of_ble_eq_true rfl) d_H_write_5 ⟨by decide, by decide⟩ ⟨by decide, by decide⟩) hS (fun H locs hP hD hS => ?_)
  have hP : va_P D hq_cl ([hq_o2 lna ta (nI (f_Line_append_o1 t len ch)) ne pn lt sd fc, hq_ai ta (G 2) 100 (f_Line_append_o2 t len ch), (h, .inr (7, fs))] ++ Z) H := hP
  have hD : va_D A ([hq_o2 lna ta (nI (f_Line_append_o1 t len ch)) ne pn lt sd fc, hq_ai ta (G 2) 100 (f_Line_append_o2 t len ch), (h, .inr (7, fs))] ++ Z) := hD
  have hP := va_P.part (cx := [(h, .inr (7, fs)), hq_o2 lna ta (nI (f_Line_append_o1 t len ch)) ne pn lt sd fc, hq_ai ta (G 2) 100 (f_Line_append_o2 t len ch)]) hP [2, 0, 1] rfl
  have hD := va_D.part (cx := [(h, .inr (7, fs)), hq_o2 lna ta (nI (f_Line_append_o1 t len ch)) ne pn lt sd fc, hq_ai ta (G 2) 100 (f_Line_append_o2 t len ch)]) hD [2, 0, 1] (by decide) rfl
  exact hret (hq_z (f_Line_append t len ch)) () H locs 8 ls d_H_write_8 (rfl) hP hD hS
