theorem d_H_report_0 : decode b_H_report 0 = .ok (.iload_n 1, 1) := by decide +kernel
theorem d_H_report_1 : decode b_H_report 1 = .ok (.iconst (-1), 1) := by decide +kernel
theorem d_H_report_2 : decode b_H_report 2 = .ok (.if_icmp .ne (12), 3) := by decide +kernel
theorem d_H_report_5 : decode b_H_report 5 = .ok (.aload_n 0, 1) := by decide +kernel
theorem d_H_report_6 : decode b_H_report 6 = .ok (.getfield 52, 3) := by decide +kernel
theorem d_H_report_9 : decode b_H_report 9 = .ok (.getfield 180, 3) := by decide +kernel
theorem d_H_report_12 : decode b_H_report 12 = .ok (.i2l, 1) := by decide +kernel
theorem d_H_report_13 : decode b_H_report 13 = .ok (.lreturn, 1) := by decide +kernel
theorem d_H_report_14 : decode b_H_report 14 = .ok (.iload_n 1, 1) := by decide +kernel
theorem d_H_report_15 : decode b_H_report 15 = .ok (.ifCond .lt (26), 3) := by decide +kernel
theorem d_H_report_18 : decode b_H_report 18 = .ok (.iload_n 1, 1) := by decide +kernel
theorem d_H_report_19 : decode b_H_report 19 = .ok (.aload_n 0, 1) := by decide +kernel
theorem d_H_report_20 : decode b_H_report 20 = .ok (.getfield 52, 3) := by decide +kernel
theorem d_H_report_23 : decode b_H_report 23 = .ok (.getfield 180, 3) := by decide +kernel
theorem d_H_report_26 : decode b_H_report 26 = .ok (.if_icmp .ge (15), 3) := by decide +kernel
theorem d_H_report_29 : decode b_H_report 29 = .ok (.aload_n 0, 1) := by decide +kernel
theorem d_H_report_30 : decode b_H_report 30 = .ok (.getfield 52, 3) := by decide +kernel
theorem d_H_report_33 : decode b_H_report 33 = .ok (.getfield 183, 3) := by decide +kernel
theorem d_H_report_36 : decode b_H_report 36 = .ok (.iload_n 1, 1) := by decide +kernel
theorem d_H_report_37 : decode b_H_report 37 = .ok (.laload, 1) := by decide +kernel
theorem d_H_report_38 : decode b_H_report 38 = .ok (.goto (6), 3) := by decide +kernel
theorem d_H_report_41 : decode b_H_report 41 = .ok (.ldc2_w 186, 3) := by decide +kernel
theorem d_H_report_44 : decode b_H_report 44 = .ok (.lreturn, 1) := by decide +kernel
set_option maxHeartbeats 4000000 in
set_option maxRecDepth 100000 in
theorem c_H_report (l : Launch) (D : va_G) (G : Nat → ClassId) (A : Nat → Prop) (Z : va_W) (h : Nat) (fs : List Value) (tl : Nat) (ra : Nat) (rp : Nat → Int64) (rc : Nat) (tt : Int64) (es : Int32) (cs : Int64) (is : Int64) (x : Int32) (hf9 : fs[9]? = some (.ref tl)) (hrc : rc ≤ 31) : hq_FL l D G A y_H_report b_H_report 2 0 [.ref h, .int x] ([(h, .inr (7, fs)), (tl, .inr (5, [.ref ra, .int (nI rc), .long tt, .int es, .long cs, .long is])), (ra, .inl (G 1, 31, .inr (.inl rp)))] ++ Z) (hq_rep1 rp rc x) ([(h, .inr (7, fs)), (tl, .inr (5, [.ref ra, .int (nI rc), .long tt, .int es, .long cs, .long is])), (ra, .inl (G 1, 31, .inr (.inl rp)))] ++ Z) := by
  refine hq_bL (by decide) (Nat.le_of_ble_eq_true rfl) ?_
  intro p e s m args below meth c Q hx hb hml hts hown hA hK hN hret ls H locs hl hP hD hS
  have hown : s.vm.findClass "HashedLearner" = some m.cls := hown
  have hl : lv_has ls 2 [(0, .ref h), (1, .int x)] := hl
  refine lv_iload_n hx hb d_H_report_0 rfl (lv_at hl 1 rfl) ?_
  refine lv_iconst (v := (-1)) hx hb d_H_report_1 (by decide) ?_
  refine lv_icmp_ne (tgt := 14) hx hb d_H_report_2 rfl (fun c2 => ?_) (fun c2 => ?_)
  · -- 2 taken
    have c2 : ¬ x = (-1) := c2
    refine lv_iload_n hx hb d_H_report_14 rfl (lv_at hl 1 rfl) ?_
    refine lv_if_lt (tgt := 41) hx hb d_H_report_15 rfl (fun c15 => ?_) (fun c15 => ?_)
    · -- 15 taken
      have c15 : x < 0 := c15
      refine lv_ldc2 (v := (-1)) hx hb hown (hts _ kl_H_186) d_H_report_41 ?_
      exact hret (-1) () H locs 44 ls d_H_report_44 (by rw [hq_rep1, if_neg c2, hq_get_neg c15]) hP hD hS
    · -- 15 not taken
      have c15 : ¬ x < 0 := c15
      refine lv_iload_n hx hb d_H_report_18 rfl (lv_at hl 1 rfl) ?_
      refine lv_aload_n hx hb d_H_report_19 rfl (lv_at hl 0 rfl) ?_
      refine va_get (D := D) (ci := 7) (v := .ref tl) (C := R_H) (T := F_H) (N := 14) hx hb hts uw_H hown hK hP 0 rfl rfl 9 (by decide) (hts _ fl_H_52) (fun _ h9 => h9) hf9 d_H_report_20 ?_
      refine va_get (D := D) (ci := 5) (v := .int (nI rc)) (C := R_Tally) (T := F_Tally) (N := 6) hx hb hts uw_Tally hown hK hP 1 rfl rfl 1 (by decide) (hts _ fl_H_180) (fun _ h9 => h9) rfl d_H_report_23 ?_
      refine lv_icmp_ge (tgt := 41) hx hb d_H_report_26 rfl (fun c26 => ?_) (fun c26 => ?_)
      · -- 26 taken
        have c26 : (nI rc) ≤ x := c26
        refine lv_ldc2 (v := (-1)) hx hb hown (hts _ kl_H_186) d_H_report_41 ?_
        exact hret (-1) () H locs 44 ls d_H_report_44 (by rw [hq_rep1, if_neg c2, hq_get_big c26]) hP hD hS
      · -- 26 not taken
        have c26 : ¬ (nI rc) ≤ x := c26
        obtain ⟨j, hj, rfl⟩ := hq_ix c15 c26 (by omega)
        · skip
          refine lv_aload_n hx hb d_H_report_29 rfl (lv_at hl 0 rfl) ?_
          refine va_get (D := D) (ci := 7) (v := .ref tl) (C := R_H) (T := F_H) (N := 14) hx hb hts uw_H hown hK hP 0 rfl rfl 9 (by decide) (hts _ fl_H_52) (fun _ h9 => h9) hf9 d_H_report_30 ?_
          refine va_get (D := D) (ci := 5) (v := .ref ra) (C := R_Tally) (T := F_Tally) (N := 6) hx hb hts uw_Tally hown hK hP 1 rfl rfl 0 (by decide) (hts _ fl_H_183) (fun _ h9 => h9) rfl d_H_report_33 ?_
          refine lv_iload_n hx hb d_H_report_36 rfl (lv_at hl 1 rfl) ?_
          refine hq_lald (j := j) hx hb hK hP 2 rfl (by omega) (by omega) d_H_report_37 ?_
          refine lv_goto (tgt := 44) hx hb d_H_report_38 rfl ?_
          exact hret (rp j) () H locs 44 ls d_H_report_44 (by rw [hq_rep1, if_neg c2, hq_get_in hj (by omega)]) hP hD hS
  · -- 2 not taken
    have c2 : x = (-1) := c2
    refine lv_aload_n hx hb d_H_report_5 rfl (lv_at hl 0 rfl) ?_
    refine va_get (D := D) (ci := 7) (v := .ref tl) (C := R_H) (T := F_H) (N := 14) hx hb hts uw_H hown hK hP 0 rfl rfl 9 (by decide) (hts _ fl_H_52) (fun _ h9 => h9) hf9 d_H_report_6 ?_
    refine va_get (D := D) (ci := 5) (v := .int (nI rc)) (C := R_Tally) (T := F_Tally) (N := 6) hx hb hts uw_Tally hown hK hP 1 rfl rfl 1 (by decide) (hts _ fl_H_180) (fun _ h9 => h9) rfl d_H_report_9 ?_
    refine lv_i2l (v := Int32.toInt64 (nI rc)) hx hb d_H_report_12 rfl ?_
    exact hret (Int32.toInt64 (nI rc)) () H locs 13 ls d_H_report_13 (by rw [hq_rep1, if_pos c2]) hP hD hS
theorem d_H_write_0 : decode b_H_write 0 = .ok (.aload_n 0, 1) := by decide +kernel
theorem d_H_write_1 : decode b_H_write 1 = .ok (.getfield 12, 3) := by decide +kernel
theorem d_H_write_4 : decode b_H_write 4 = .ok (.iload_n 1, 1) := by decide +kernel
theorem d_H_write_5 : decode b_H_write 5 = .ok (.invokevirtual 86, 3) := by decide +kernel
theorem d_H_write_8 : decode b_H_write 8 = .ok (.ireturn, 1) := by decide +kernel
set_option maxHeartbeats 4000000 in
set_option maxRecDepth 100000 in
theorem c_H_write (l : Launch) (D : va_G) (G : Nat → ClassId) (A : Nat → Prop) (Z : va_W) (h : Nat) (fs : List Value) (hl : Nat) (ta : Nat) (t : Nat → Int32) (len : Nat) (ne : Int32) (pn : Int32) (lt : Int32) (sd : Int32) (fc : Int32) (ch : Int32) (hf0 : fs[0]? = some (.ref hl)) (hlen : len ≤ 100) : hq_FI l D G A y_H_write b_H_write 2 .boolean 2 [.ref h, .int ch] ([(h, .inr (7, fs)), (hl, .inr (2, [.ref ta, .int (nI len), .int ne, .int pn, .int lt, .int sd, .int fc])), (ta, .inl (G 2, 100, .inl t))] ++ Z) (hq_z (f_Line_append t len ch)) ([(h, .inr (7, fs)), (hl, .inr (2, [.ref ta, .int (nI (f_Line_append_o1 t len ch)), .int ne, .int pn, .int lt, .int sd, .int fc])), (ta, .inl (G 2, 100, .inl (f_Line_append_o2 t len ch)))] ++ Z) := by
  refine hq_bI (by decide) (Nat.le_of_ble_eq_true rfl) (fun r u h => by rw [h]; exact hq_znar _) ?_
  intro p e s m args below meth c Q hx hb hml hts hown hA hK hN hret ls H locs hl hP hD hS
  have hown : s.vm.findClass "HashedLearner" = some m.cls := hown
  have hl : lv_has ls 2 [(0, .ref h), (1, .int ch)] := hl
  refine lv_aload_n hx hb d_H_write_0 rfl (lv_at hl 0 rfl) ?_
  refine va_get (D := D) (ci := 7) (v := .ref hl) (C := R_H) (T := F_H) (N := 14) hx hb hts uw_H hown hK hP 0 rfl rfl 0 (by decide) (hts _ fl_H_12) (fun _ h9 => h9) hf0 d_H_write_1 ?_
  refine lv_iload_n hx hb d_H_write_4 rfl (lv_at hl 1 rfl) ?_
  have hPc : va_P D hq_cl ([(hl, .inr (2, [.ref ta, .int (nI len), .int ne, .int pn, .int lt, .int sd, .int fc])), (ta, .inl (G 2, 100, .inl t))] ++ ([(h, .inr (7, fs))] ++ Z)) H := va_P.part (cx := [(hl, .inr (2, [.ref ta, .int (nI len), .int ne, .int pn, .int lt, .int sd, .int fc])), (ta, .inl (G 2, 100, .inl t)), (h, .inr (7, fs))]) hP [1, 2, 0] rfl
  have hDc : va_D A ([(hl, .inr (2, [.ref ta, .int (nI len), .int ne, .int pn, .int lt, .int sd, .int fc])), (ta, .inl (G 2, 100, .inl t))] ++ ([(h, .inr (7, fs))] ++ Z)) := va_D.part (cx := [(hl, .inr (2, [.ref ta, .int (nI len), .int ne, .int pn, .int lt, .int sd, .int fc])), (ta, .inl (G 2, 100, .inl t)), (h, .inr (7, fs))]) hD [1, 2, 0] (by decide) rfl
  refine hq_iF (hq_rV (As := [.int ch]) (rest := []) hx hb hml hown hts (c_Line_append l D G A ([(h, .inr (7, fs))] ++ Z) hl ta t len ne pn lt sd fc ch (by first | assumption | omega)) yy_Line_append lk_H_86 hA hK hN hS hPc hDc 0 2 rfl rfl rfl hl.1 rfl (Nat.le_of_ble_eq_true rfl) d_H_write_5 ⟨by decide, by decide⟩ ⟨by decide, by decide⟩) hS (fun H locs hP hD hS => ?_)
  have hP : va_P D hq_cl ([(hl, .inr (2, [.ref ta, .int (nI (f_Line_append_o1 t len ch)), .int ne, .int pn, .int lt, .int sd, .int fc])), (ta, .inl (G 2, 100, .inl (f_Line_append_o2 t len ch))), (h, .inr (7, fs))] ++ Z) H := hP
  have hD : va_D A ([(hl, .inr (2, [.ref ta, .int (nI (f_Line_append_o1 t len ch)), .int ne, .int pn, .int lt, .int sd, .int fc])), (ta, .inl (G 2, 100, .inl (f_Line_append_o2 t len ch))), (h, .inr (7, fs))] ++ Z) := hD
  have hP := va_P.part (cx := [(h, .inr (7, fs)), (hl, .inr (2, [.ref ta, .int (nI (f_Line_append_o1 t len ch)), .int ne, .int pn, .int lt, .int sd, .int fc])), (ta, .inl (G 2, 100, .inl (f_Line_append_o2 t len ch)))]) hP [2, 0, 1] rfl
  have hD := va_D.part (cx := [(h, .inr (7, fs)), (hl, .inr (2, [.ref ta, .int (nI (f_Line_append_o1 t len ch)), .int ne, .int pn, .int lt, .int sd, .int fc])), (ta, .inl (G 2, 100, .inl (f_Line_append_o2 t len ch)))]) hD [2, 0, 1] (by decide) rfl
  exact hret (hq_z (f_Line_append t len ch)) () H locs 8 ls d_H_write_8 (rfl) hP hD hS
theorem d_H_cross_0 : decode b_H_cross 0 = .ok (.aload_n 0, 1) := by decide +kernel
theorem d_H_cross_1 : decode b_H_cross 1 = .ok (.getfield 19, 3) := by decide +kernel
theorem d_H_cross_4 : decode b_H_cross 4 = .ok (.iload_n 1, 1) := by decide +kernel
theorem d_H_cross_5 : decode b_H_cross 5 = .ok (.iload_n 2, 1) := by decide +kernel
theorem d_H_cross_6 : decode b_H_cross 6 = .ok (.invokevirtual 90, 3) := by decide +kernel
theorem d_H_cross_9 : decode b_H_cross 9 = .ok (.ireturn, 1) := by decide +kernel
set_option maxHeartbeats 4000000 in
set_option maxRecDepth 100000 in
theorem c_H_cross (l : Launch) (D : va_G) (G : Nat → ClassId) (A : Nat → Prop) (Z : va_W) (h : Nat) (fs : List Value) (y : Nat) (ya : Nat) (yb : Nat) (cl : Nat → Int32) (cr : Nat → Int32) (nc : Nat) (cd : Bool) (c1 : Int32) (c2 : Int32) (hf1 : fs[1]? = some (.ref y)) (hk : nc ≤ 3) : hq_FI l D G A y_H_cross b_H_cross 3 .boolean 3 [.ref h, .int c1, .int c2] ([(h, .inr (7, fs)), (y, .inr (0, [.ref ya, .ref yb, .int (nI nc), .int (hq_z cd)])), (ya, .inl (G 2, 3, .inl cl)), (yb, .inl (G 2, 3, .inl cr))] ++ Z) (hq_z (f_Crossings_add cl cr nc cd c1 c2)) ([(h, .inr (7, fs)), (y, .inr (0, [.ref ya, .ref yb, .int (nI (f_Crossings_add_o1 cl cr nc cd c1 c2)), .int (hq_z cd)])), (ya, .inl (G 2, 3, .inl (f_Crossings_add_o2 cl cr nc cd c1 c2))), (yb, .inl (G 2, 3, .inl (f_Crossings_add_o3 cl cr nc cd c1 c2)))] ++ Z) := by
  refine hq_bI (by decide) (Nat.le_of_ble_eq_true rfl) (fun r u h => by rw [h]; exact hq_znar _) ?_
  intro p e s m args below meth c Q hx hb hml hts hown hA hK hN hret ls H locs hl hP hD hS
  have hown : s.vm.findClass "HashedLearner" = some m.cls := hown
  have hl : lv_has ls 3 [(0, .ref h), (1, .int c1), (2, .int c2)] := hl
  refine lv_aload_n hx hb d_H_cross_0 rfl (lv_at hl 0 rfl) ?_
  refine va_get (D := D) (ci := 7) (v := .ref y) (C := R_H) (T := F_H) (N := 14) hx hb hts uw_H hown hK hP 0 rfl rfl 1 (by decide) (hts _ fl_H_19) (fun _ h9 => h9) hf1 d_H_cross_1 ?_
  refine lv_iload_n hx hb d_H_cross_4 rfl (lv_at hl 1 rfl) ?_
  refine lv_iload_n hx hb d_H_cross_5 rfl (lv_at hl 2 rfl) ?_
  have hPc : va_P D hq_cl ([(y, .inr (0, [.ref ya, .ref yb, .int (nI nc), .int (hq_z cd)])), (ya, .inl (G 2, 3, .inl cl)), (yb, .inl (G 2, 3, .inl cr))] ++ ([(h, .inr (7, fs))] ++ Z)) H := va_P.part (cx := [(y, .inr (0, [.ref ya, .ref yb, .int (nI nc), .int (hq_z cd)])), (ya, .inl (G 2, 3, .inl cl)), (yb, .inl (G 2, 3, .inl cr)), (h, .inr (7, fs))]) hP [1, 2, 3, 0] rfl
  have hDc : va_D A ([(y, .inr (0, [.ref ya, .ref yb, .int (nI nc), .int (hq_z cd)])), (ya, .inl (G 2, 3, .inl cl)), (yb, .inl (G 2, 3, .inl cr))] ++ ([(h, .inr (7, fs))] ++ Z)) := va_D.part (cx := [(y, .inr (0, [.ref ya, .ref yb, .int (nI nc), .int (hq_z cd)])), (ya, .inl (G 2, 3, .inl cl)), (yb, .inl (G 2, 3, .inl cr)), (h, .inr (7, fs))]) hD [1, 2, 3, 0] (by decide) rfl
  refine hq_iF (hq_rV (As := [.int c1, .int c2]) (rest := []) hx hb hml hown hts (c_Crossings_add l D G A ([(h, .inr (7, fs))] ++ Z) y ya yb cl cr nc cd c1 c2 (by first | assumption | omega)) yy_Crossings_add lk_H_90 hA hK hN hS hPc hDc 0 0 rfl rfl rfl hl.1 rfl (Nat.le_of_ble_eq_true rfl) d_H_cross_6 ⟨by decide, by decide⟩ ⟨by decide, by decide⟩) hS (fun H locs hP hD hS => ?_)
  have hP : va_P D hq_cl ([(y, .inr (0, [.ref ya, .ref yb, .int (nI (f_Crossings_add_o1 cl cr nc cd c1 c2)), .int (hq_z cd)])), (ya, .inl (G 2, 3, .inl (f_Crossings_add_o2 cl cr nc cd c1 c2))), (yb, .inl (G 2, 3, .inl (f_Crossings_add_o3 cl cr nc cd c1 c2))), (h, .inr (7, fs))] ++ Z) H := hP
  have hD : va_D A ([(y, .inr (0, [.ref ya, .ref yb, .int (nI (f_Crossings_add_o1 cl cr nc cd c1 c2)), .int (hq_z cd)])), (ya, .inl (G 2, 3, .inl (f_Crossings_add_o2 cl cr nc cd c1 c2))), (yb, .inl (G 2, 3, .inl (f_Crossings_add_o3 cl cr nc cd c1 c2))), (h, .inr (7, fs))] ++ Z) := hD
  have hP := va_P.part (cx := [(h, .inr (7, fs)), (y, .inr (0, [.ref ya, .ref yb, .int (nI (f_Crossings_add_o1 cl cr nc cd c1 c2)), .int (hq_z cd)])), (ya, .inl (G 2, 3, .inl (f_Crossings_add_o2 cl cr nc cd c1 c2))), (yb, .inl (G 2, 3, .inl (f_Crossings_add_o3 cl cr nc cd c1 c2)))]) hP [3, 0, 1, 2] rfl
  have hD := va_D.part (cx := [(h, .inr (7, fs)), (y, .inr (0, [.ref ya, .ref yb, .int (nI (f_Crossings_add_o1 cl cr nc cd c1 c2)), .int (hq_z cd)])), (ya, .inl (G 2, 3, .inl (f_Crossings_add_o2 cl cr nc cd c1 c2))), (yb, .inl (G 2, 3, .inl (f_Crossings_add_o3 cl cr nc cd c1 c2)))]) hD [3, 0, 1, 2] (by decide) rfl
  exact hret (hq_z (f_Crossings_add cl cr nc cd c1 c2)) () H locs 9 ls d_H_cross_9 (rfl) hP hD hS
theorem d_H_line_0 : decode b_H_line 0 = .ok (.aload_n 0, 1) := by decide +kernel
theorem d_H_line_1 : decode b_H_line 1 = .ok (.getfield 33, 3) := by decide +kernel
theorem d_H_line_4 : decode b_H_line 4 = .ok (.iconst 4, 1) := by decide +kernel
theorem d_H_line_5 : decode b_H_line 5 = .ok (.if_icmp .lt (6), 3) := by decide +kernel
theorem d_H_line_8 : decode b_H_line 8 = .ok (.bipush (-2), 2) := by decide +kernel
theorem d_H_line_10 : decode b_H_line 10 = .ok (.ireturn, 1) := by decide +kernel
theorem d_H_line_11 : decode b_H_line 11 = .ok (.aload_n 0, 1) := by decide +kernel
theorem d_H_line_12 : decode b_H_line 12 = .ok (.getfield 25, 3) := by decide +kernel
theorem d_H_line_15 : decode b_H_line 15 = .ok (.aload_n 0, 1) := by decide +kernel
theorem d_H_line_16 : decode b_H_line 16 = .ok (.getfield 29, 3) := by decide +kernel
theorem d_H_line_19 : decode b_H_line 19 = .ok (.aload_n 0, 1) := by decide +kernel
theorem d_H_line_20 : decode b_H_line 20 = .ok (.getfield 33, 3) := by decide +kernel
theorem d_H_line_23 : decode b_H_line 23 = .ok (.iadd, 1) := by decide +kernel
theorem d_H_line_24 : decode b_H_line 24 = .ok (.iconst 4, 1) := by decide +kernel
theorem d_H_line_25 : decode b_H_line 25 = .ok (.irem, 1) := by decide +kernel
theorem d_H_line_26 : decode b_H_line 26 = .ok (.aaload, 1) := by decide +kernel
theorem d_H_line_27 : decode b_H_line 27 = .ok (.astore_n 1, 1) := by decide +kernel
theorem d_H_line_28 : decode b_H_line 28 = .ok (.aload_n 0, 1) := by decide +kernel
theorem d_H_line_29 : decode b_H_line 29 = .ok (.getfield 12, 3) := by decide +kernel
theorem d_H_line_32 : decode b_H_line 32 = .ok (.aload_n 1, 1) := by decide +kernel
theorem d_H_line_33 : decode b_H_line 33 = .ok (.invokevirtual 94, 3) := by decide +kernel
theorem d_H_line_36 : decode b_H_line 36 = .ok (.istore_n 2, 1) := by decide +kernel
theorem d_H_line_37 : decode b_H_line 37 = .ok (.aload_n 0, 1) := by decide +kernel
theorem d_H_line_38 : decode b_H_line 38 = .ok (.getfield 12, 3) := by decide +kernel
theorem d_H_line_41 : decode b_H_line 41 = .ok (.invokevirtual 98, 3) := by decide +kernel
theorem d_H_line_44 : decode b_H_line 44 = .ok (.iload_n 2, 1) := by decide +kernel
theorem d_H_line_45 : decode b_H_line 45 = .ok (.ifCond .ne (15), 3) := by decide +kernel
theorem d_H_line_48 : decode b_H_line 48 = .ok (.aload_n 0, 1) := by decide +kernel
theorem d_H_line_49 : decode b_H_line 49 = .ok (.dup, 1) := by decide +kernel
theorem d_H_line_50 : decode b_H_line 50 = .ok (.getfield 66, 3) := by decide +kernel
theorem d_H_line_53 : decode b_H_line 53 = .ok (.iconst 1, 1) := by decide +kernel
theorem d_H_line_54 : decode b_H_line 54 = .ok (.iadd, 1) := by decide +kernel
theorem d_H_line_55 : decode b_H_line 55 = .ok (.putfield 66, 3) := by decide +kernel
theorem d_H_line_58 : decode b_H_line 58 = .ok (.iconst (-1), 1) := by decide +kernel
theorem d_H_line_59 : decode b_H_line 59 = .ok (.ireturn, 1) := by decide +kernel
theorem d_H_line_60 : decode b_H_line 60 = .ok (.aload_n 0, 1) := by decide +kernel
theorem d_H_line_61 : decode b_H_line 61 = .ok (.dup, 1) := by decide +kernel
theorem d_H_line_62 : decode b_H_line 62 = .ok (.getfield 33, 3) := by decide +kernel
theorem d_H_line_65 : decode b_H_line 65 = .ok (.iconst 1, 1) := by decide +kernel
theorem d_H_line_66 : decode b_H_line 66 = .ok (.iadd, 1) := by decide +kernel
theorem d_H_line_67 : decode b_H_line 67 = .ok (.putfield 33, 3) := by decide +kernel
theorem d_H_line_70 : decode b_H_line 70 = .ok (.aload_n 0, 1) := by decide +kernel
theorem d_H_line_71 : decode b_H_line 71 = .ok (.getfield 19, 3) := by decide +kernel
theorem d_H_line_74 : decode b_H_line 74 = .ok (.invokevirtual 101, 3) := by decide +kernel
theorem d_H_line_77 : decode b_H_line 77 = .ok (.aload_n 1, 1) := by decide +kernel
theorem d_H_line_78 : decode b_H_line 78 = .ok (.getfield 104, 3) := by decide +kernel
theorem d_H_line_81 : decode b_H_line 81 = .ok (.ireturn, 1) := by decide +kernel
set_option maxHeartbeats 4000000 in
set_option maxRecDepth 100000 in
theorem c_H_line_full (l : Launch) (D : va_G) (G : Nat → ClassId) (A : Nat → Prop) (Z : va_W) (h : Nat) (hl : Nat) (y : Nat) (rra : Nat) (od : Nat) (hd : Nat) (rsa : Nat) (so : Nat) (z : Nat) (o : Nat) (tl : Nat) (b : Nat) (mma : Nat) (vva : Nat) (wc : Int32) (hhd : 4 ≤ hd) (hhd2 : hd < 2 ^ 30) : hq_FI l D G A y_H_line b_H_line 3 .int 0 [.ref h] ([(h, .inr (7, [.ref hl, .ref y, .ref rra, .int (nI od), .int (nI hd), .ref rsa, .int (nI so), .ref z, .ref o, .ref tl, .ref b, .ref mma, .ref vva, .int wc]))] ++ Z) ((-2)) ([(h, .inr (7, [.ref hl, .ref y, .ref rra, .int (nI od), .int (nI hd), .ref rsa, .int (nI so), .ref z, .ref o, .ref tl, .ref b, .ref mma, .ref vva, .int wc]))] ++ Z) := by
  refine hq_bI (by decide) (Nat.le_of_ble_eq_true rfl) (fun _ _ _ => rfl) ?_
  intro p e s m args below meth c Q hx hb hml hts hown hA hK hN hret ls H locs hl hP hD hS
  have hown : s.vm.findClass "HashedLearner" = some m.cls := hown
  have hl : lv_has ls 3 [(0, .ref h)] := hl
  refine lv_aload_n hx hb d_H_line_0 rfl (lv_at hl 0 rfl) ?_
  refine va_get (D := D) (ci := 7) (v := .int (nI hd)) (C := R_H) (T := F_H) (N := 14) hx hb hts uw_H hown hK hP 0 rfl rfl 4 (by decide) (hts _ fl_H_33) (fun _ h9 => h9) rfl d_H_line_1 ?_
  refine lv_iconst (v := 4) hx hb d_H_line_4 (by decide) ?_
  refine lv_icmp_lt (tgt := 11) hx hb d_H_line_5 rfl (fun c5 => ?_) (fun c5 => ?_)
  · -- 5 taken
    have c5 : hd < 4 := (nI_ltI (a := hd) (b := 4) (by omega) (by omega)).mp c5
    exact absurd c5 (by omega)
  · -- 5 not taken
    have c5 : ¬ hd < 4 := fun h => c5 ((nI_ltI (a := hd) (b := 4) (by omega) (by omega)).mpr h)
    refine lv_bipush (v := (-2)) hx hb d_H_line_8 (by decide) ?_
    exact hret (-2) () H locs 10 ls d_H_line_10 (by simp [c5]) hP hD hS
set_option maxHeartbeats 4000000 in
set_option maxRecDepth 100000 in
theorem c_H_line_bad (l : Launch) (D : va_G) (G : Nat → ClassId) (A : Nat → Prop) (Z : va_W) (h : Nat) (hl : Nat) (y : Nat) (rra : Nat) (od : Nat) (hd : Nat) (rsa : Nat) (so : Nat) (z : Nat) (o : Nat) (tl : Nat) (b : Nat) (mma : Nat) (vva : Nat) (wc : Int32) (fr : Nat → Option Nat) (ta : Nat) (t : Nat → Int32) (len : Nat) (ne : Int32) (pn : Int32) (lt : Int32) (sd : Int32) (fc : Int32) (x : Nat) (xa : Nat) (xb : Nat) (xc : Nat) (fh : Nat → Int32) (fv : Nat → Int32) (fl : Nat → Int32) (k : Nat) (lab : Bool) (lb : Int32) (im : Int32) (hhd : hd < 4) (hod : od < 4) (hlen : len ≤ 100) (ht : ∀ q, q < len → hq_ch (t q)) (hk : k ≤ 12) (hfr : fr ((od + hd) % 4) = some x) (hpar : hq_par t len = none) : hq_MI l D G A y_H_line b_H_line 3 .int 6 0 0 [.ref h] ([(h, .inr (7, [.ref hl, .ref y, .ref rra, .int (nI od), .int (nI hd), .ref rsa, .int (nI so), .ref z, .ref o, .ref tl, .ref b, .ref mma, .ref vva, .int wc])), (rra, .inl (G 4, 4, .inr (.inr (.inr (.inr fr))))), (hl, .inr (2, [.ref ta, .int (nI len), .int ne, .int pn, .int lt, .int sd, .int fc])), (ta, .inl (G 2, 100, .inl t)), (x, .inr (1, [.ref xa, .ref xb, .ref xc, .int (nI k), .int (hq_z lab), .int lb, .int im])), (xa, .inl (G 0, 12, .inl fh)), (xb, .inl (G 0, 12, .inl fv)), (xc, .inl (G 2, 12, .inl fl))] ++ Z) (fun r (u : (Bool × Int32 × Int32) × (Nat → Int32) × (Nat → Int32) × (Nat → Int32) × Nat × Int32 × Int32 × Int32 × Int32 × Int32) => r = (-1) ∧ u.2.2.2.2.1 ≤ 12) (fun (u : (Bool × Int32 × Int32) × (Nat → Int32) × (Nat → Int32) × (Nat → Int32) × Nat × Int32 × Int32 × Int32 × Int32 × Int32) => [(h, .inr (7, [.ref hl, .ref y, .ref rra, .int (nI od), .int (nI hd), .ref rsa, .int (nI so), .ref z, .ref o, .ref tl, .ref b, .ref mma, .ref vva, .int (wc + 1)])), (rra, .inl (G 4, 4, .inr (.inr (.inr (.inr fr))))), (hl, .inr (2, [.ref ta, .int (nI 0), .int u.2.2.2.2.2.1, .int u.2.2.2.2.2.2.1, .int u.2.2.2.2.2.2.2.1, .int u.2.2.2.2.2.2.2.2.1, .int u.2.2.2.2.2.2.2.2.2])), (ta, .inl (G 2, 100, .inl t)), (x, .inr (1, [.ref xa, .ref xb, .ref xc, .int (nI u.2.2.2.2.1), .int (hq_z u.1.1), .int u.1.2.1, .int u.1.2.2])), (xa, .inl (G 0, 12, .inl u.2.1)), (xb, .inl (G 0, 12, .inl u.2.2.1)), (xc, .inl (G 2, 12, .inl u.2.2.2.1))] ++ Z) := by
  refine hq_bI (by decide) (Nat.le_of_ble_eq_true rfl) (fun _ _ _ => rfl) ?_
  intro p e s m args below meth c Q hx hb hml hts hown hA hK hN hret ls H locs hl hP hD hS
  have hown : s.vm.findClass "HashedLearner" = some m.cls := hown
  have hl : lv_has ls 3 [(0, .ref h)] := hl
  refine lv_aload_n hx hb d_H_line_0 rfl (lv_at hl 0 rfl) ?_
  refine va_get (D := D) (ci := 7) (v := .int (nI hd)) (C := R_H) (T := F_H) (N := 14) hx hb hts uw_H hown hK hP 0 rfl rfl 4 (by decide) (hts _ fl_H_33) (fun _ h9 => h9) rfl d_H_line_1 ?_
  refine lv_iconst (v := 4) hx hb d_H_line_4 (by decide) ?_
  refine lv_icmp_lt (tgt := 11) hx hb d_H_line_5 rfl (fun c5 => ?_) (fun c5 => ?_)
  · -- 5 taken
    have c5 : hd < 4 := (nI_ltI (a := hd) (b := 4) (by omega) (by omega)).mp c5
    refine lv_aload_n hx hb d_H_line_11 rfl (lv_at hl 0 rfl) ?_
    refine va_get (D := D) (ci := 7) (v := .ref rra) (C := R_H) (T := F_H) (N := 14) hx hb hts uw_H hown hK hP 0 rfl rfl 2 (by decide) (hts _ fl_H_25) (fun _ h9 => h9) rfl d_H_line_12 ?_
    refine lv_aload_n hx hb d_H_line_15 rfl (lv_at hl 0 rfl) ?_
    refine va_get (D := D) (ci := 7) (v := .int (nI od)) (C := R_H) (T := F_H) (N := 14) hx hb hts uw_H hown hK hP 0 rfl rfl 3 (by decide) (hts _ fl_H_29) (fun _ h9 => h9) rfl d_H_line_16 ?_
    refine lv_aload_n hx hb d_H_line_19 rfl (lv_at hl 0 rfl) ?_
    refine va_get (D := D) (ci := 7) (v := .int (nI hd)) (C := R_H) (T := F_H) (N := 14) hx hb hts uw_H hown hK hP 0 rfl rfl 4 (by decide) (hts _ fl_H_33) (fun _ h9 => h9) rfl d_H_line_20 ?_
    refine lv_iadd hx hb d_H_line_23 ?_
    refine hq_topi (x' := nI (od + hd)) (nI_add od hd) ?_
    refine lv_iconst (v := 4) hx hb d_H_line_24 (by decide) ?_
    refine lv_irem hx hb d_H_line_25 (by decide) ?_
    refine hq_topi (x' := nI ((od + hd) % 4)) (pk_rem (d := 4) (by omega) (by decide) (by decide)) ?_
    refine hq_aald (j := (od + hd) % 4) hx hb hK hP 1 4 rfl rfl (by omega) (by omega) d_H_line_26 ?_
    refine hq_topq (y := x) (hfr) ?_
    refine lv_astore_n (nL := 3) (lv' := [(1, .ref x), (0, .ref h)]) hx hb d_H_line_27 rfl hl (by decide) rfl (fun ls hl => ?_)
    refine lv_aload_n hx hb d_H_line_28 rfl (lv_at hl 1 rfl) ?_
    refine va_get (D := D) (ci := 7) (v := .ref hl) (C := R_H) (T := F_H) (N := 14) hx hb hts uw_H hown hK hP 0 rfl rfl 0 (by decide) (hts _ fl_H_12) (fun _ h9 => h9) rfl d_H_line_29 ?_
    refine lv_aload_n hx hb d_H_line_32 rfl (lv_at hl 0 rfl) ?_
    have hPc : va_P D hq_cl ([(hl, .inr (2, [.ref ta, .int (nI len), .int ne, .int pn, .int lt, .int sd, .int fc])), (ta, .inl (G 2, 100, .inl t)), (x, .inr (1, [.ref xa, .ref xb, .ref xc, .int (nI k), .int (hq_z lab), .int lb, .int im])), (xa, .inl (G 0, 12, .inl fh)), (xb, .inl (G 0, 12, .inl fv)), (xc, .inl (G 2, 12, .inl fl))] ++ ([(h, .inr (7, [.ref hl, .ref y, .ref rra, .int (nI od), .int (nI hd), .ref rsa, .int (nI so), .ref z, .ref o, .ref tl, .ref b, .ref mma, .ref vva, .int wc])), (rra, .inl (G 4, 4, .inr (.inr (.inr (.inr fr)))))] ++ Z)) H := va_P.part (cx := [(hl, .inr (2, [.ref ta, .int (nI len), .int ne, .int pn, .int lt, .int sd, .int fc])), (ta, .inl (G 2, 100, .inl t)), (x, .inr (1, [.ref xa, .ref xb, .ref xc, .int (nI k), .int (hq_z lab), .int lb, .int im])), (xa, .inl (G 0, 12, .inl fh)), (xb, .inl (G 0, 12, .inl fv)), (xc, .inl (G 2, 12, .inl fl)), (h, .inr (7, [.ref hl, .ref y, .ref rra, .int (nI od), .int (nI hd), .ref rsa, .int (nI so), .ref z, .ref o, .ref tl, .ref b, .ref mma, .ref vva, .int wc])), (rra, .inl (G 4, 4, .inr (.inr (.inr (.inr fr)))))]) hP [2, 3, 4, 5, 6, 7, 0, 1] rfl
    have hDc : va_D A ([(hl, .inr (2, [.ref ta, .int (nI len), .int ne, .int pn, .int lt, .int sd, .int fc])), (ta, .inl (G 2, 100, .inl t)), (x, .inr (1, [.ref xa, .ref xb, .ref xc, .int (nI k), .int (hq_z lab), .int lb, .int im])), (xa, .inl (G 0, 12, .inl fh)), (xb, .inl (G 0, 12, .inl fv)), (xc, .inl (G 2, 12, .inl fl))] ++ ([(h, .inr (7, [.ref hl, .ref y, .ref rra, .int (nI od), .int (nI hd), .ref rsa, .int (nI so), .ref z, .ref o, .ref tl, .ref b, .ref mma, .ref vva, .int wc])), (rra, .inl (G 4, 4, .inr (.inr (.inr (.inr fr)))))] ++ Z)) := va_D.part (cx := [(hl, .inr (2, [.ref ta, .int (nI len), .int ne, .int pn, .int lt, .int sd, .int fc])), (ta, .inl (G 2, 100, .inl t)), (x, .inr (1, [.ref xa, .ref xb, .ref xc, .int (nI k), .int (hq_z lab), .int lb, .int im])), (xa, .inl (G 0, 12, .inl fh)), (xb, .inl (G 0, 12, .inl fv)), (xc, .inl (G 2, 12, .inl fl)), (h, .inr (7, [.ref hl, .ref y, .ref rra, .int (nI od), .int (nI hd), .ref rsa, .int (nI so), .ref z, .ref o, .ref tl, .ref b, .ref mma, .ref vva, .int wc])), (rra, .inl (G 4, 4, .inr (.inr (.inr (.inr fr)))))]) hD [2, 3, 4, 5, 6, 7, 0, 1] (by decide) rfl
    refine hq_i (hq_rV (As := [.ref x]) (rest := []) hx hb hml hown hts (c_Line_readInto l D G A ([(h, .inr (7, [.ref hl, .ref y, .ref rra, .int (nI od), .int (nI hd), .ref rsa, .int (nI so), .ref z, .ref o, .ref tl, .ref b, .ref mma, .ref vva, .int wc])), (rra, .inl (G 4, 4, .inr (.inr (.inr (.inr fr)))))] ++ Z) hl ta t len ne pn lt sd fc x xa xb xc fh fv fl k lab lb im (by first | assumption | omega) (by first | assumption | omega) (by first | assumption | omega)) yy_Line_readInto lk_H_94 hA hK hN hS hPc hDc 0 2 rfl rfl rfl hl.1 rfl (Nat.le_of_ble_eq_true rfl) d_H_line_33 ⟨by decide, by decide⟩ ⟨by decide, by decide⟩) hS (fun r33 u33 H locs w33 hP hD hS => ?_)
    have hP : va_P D hq_cl ([(hl, .inr (2, [.ref ta, .int (nI len), .int u33.2.2.2.2.2.1, .int u33.2.2.2.2.2.2.1, .int u33.2.2.2.2.2.2.2.1, .int u33.2.2.2.2.2.2.2.2.1, .int u33.2.2.2.2.2.2.2.2.2])), (ta, .inl (G 2, 100, .inl t)), (x, .inr (1, [.ref xa, .ref xb, .ref xc, .int (nI u33.2.2.2.2.1), .int (hq_z u33.1.1), .int u33.1.2.1, .int u33.1.2.2])), (xa, .inl (G 0, 12, .inl u33.2.1)), (xb, .inl (G 0, 12, .inl u33.2.2.1)), (xc, .inl (G 2, 12, .inl u33.2.2.2.1)), (h, .inr (7, [.ref hl, .ref y, .ref rra, .int (nI od), .int (nI hd), .ref rsa, .int (nI so), .ref z, .ref o, .ref tl, .ref b, .ref mma, .ref vva, .int wc])), (rra, .inl (G 4, 4, .inr (.inr (.inr (.inr fr)))))] ++ Z) H := hP
    have hD : va_D A ([(hl, .inr (2, [.ref ta, .int (nI len), .int u33.2.2.2.2.2.1, .int u33.2.2.2.2.2.2.1, .int u33.2.2.2.2.2.2.2.1, .int u33.2.2.2.2.2.2.2.2.1, .int u33.2.2.2.2.2.2.2.2.2])), (ta, .inl (G 2, 100, .inl t)), (x, .inr (1, [.ref xa, .ref xb, .ref xc, .int (nI u33.2.2.2.2.1), .int (hq_z u33.1.1), .int u33.1.2.1, .int u33.1.2.2])), (xa, .inl (G 0, 12, .inl u33.2.1)), (xb, .inl (G 0, 12, .inl u33.2.2.1)), (xc, .inl (G 2, 12, .inl u33.2.2.2.1)), (h, .inr (7, [.ref hl, .ref y, .ref rra, .int (nI od), .int (nI hd), .ref rsa, .int (nI so), .ref z, .ref o, .ref tl, .ref b, .ref mma, .ref vva, .int wc])), (rra, .inl (G 4, 4, .inr (.inr (.inr (.inr fr)))))] ++ Z) := hD
    obtain ⟨⟨lab2, lb2, im2⟩, fh2, fv2, fl2, k2, ne2, pn2, lt2, sd2, fc2⟩ := u33
    obtain ⟨w33, hk2, hR2⟩ := w33
    rw [hpar] at w33
    have w33 : r33 = 0 := w33
    subst w33
    have hP : va_P D hq_cl ([(hl, .inr (2, [.ref ta, .int (nI len), .int ne2, .int pn2, .int lt2, .int sd2, .int fc2])), (ta, .inl (G 2, 100, .inl t)), (x, .inr (1, [.ref xa, .ref xb, .ref xc, .int (nI k2), .int (hq_z lab2), .int lb2, .int im2])), (xa, .inl (G 0, 12, .inl fh2)), (xb, .inl (G 0, 12, .inl fv2)), (xc, .inl (G 2, 12, .inl fl2)), (h, .inr (7, [.ref hl, .ref y, .ref rra, .int (nI od), .int (nI hd), .ref rsa, .int (nI so), .ref z, .ref o, .ref tl, .ref b, .ref mma, .ref vva, .int wc])), (rra, .inl (G 4, 4, .inr (.inr (.inr (.inr fr)))))] ++ Z) H := hP
    have hD : va_D A ([(hl, .inr (2, [.ref ta, .int (nI len), .int ne2, .int pn2, .int lt2, .int sd2, .int fc2])), (ta, .inl (G 2, 100, .inl t)), (x, .inr (1, [.ref xa, .ref xb, .ref xc, .int (nI k2), .int (hq_z lab2), .int lb2, .int im2])), (xa, .inl (G 0, 12, .inl fh2)), (xb, .inl (G 0, 12, .inl fv2)), (xc, .inl (G 2, 12, .inl fl2)), (h, .inr (7, [.ref hl, .ref y, .ref rra, .int (nI od), .int (nI hd), .ref rsa, .int (nI so), .ref z, .ref o, .ref tl, .ref b, .ref mma, .ref vva, .int wc])), (rra, .inl (G 4, 4, .inr (.inr (.inr (.inr fr)))))] ++ Z) := hD
    refine lv_istore_n (nL := 3) (lv' := [(2, .int 0), (1, .ref x), (0, .ref h)]) hx hb d_H_line_36 rfl hl (by decide) rfl (fun ls hl => ?_)
    refine lv_aload_n hx hb d_H_line_37 rfl (lv_at hl 2 rfl) ?_
    refine va_get (D := D) (ci := 7) (v := .ref hl) (C := R_H) (T := F_H) (N := 14) hx hb hts uw_H hown hK hP 6 rfl rfl 0 (by decide) (hts _ fl_H_12) (fun _ h9 => h9) rfl d_H_line_38 ?_
    have hPc : va_P D hq_cl ([(hl, .inr (2, [.ref ta, .int (nI len), .int ne2, .int pn2, .int lt2, .int sd2, .int fc2])), (ta, .inl (G 2, 100, .inl t))] ++ ([(x, .inr (1, [.ref xa, .ref xb, .ref xc, .int (nI k2), .int (hq_z lab2), .int lb2, .int im2])), (xa, .inl (G 0, 12, .inl fh2)), (xb, .inl (G 0, 12, .inl fv2)), (xc, .inl (G 2, 12, .inl fl2)), (h, .inr (7, [.ref hl, .ref y, .ref rra, .int (nI od), .int (nI hd), .ref rsa, .int (nI so), .ref z, .ref o, .ref tl, .ref b, .ref mma, .ref vva, .int wc])), (rra, .inl (G 4, 4, .inr (.inr (.inr (.inr fr)))))] ++ Z)) H := hP
    have hDc : va_D A ([(hl, .inr (2, [.ref ta, .int (nI len), .int ne2, .int pn2, .int lt2, .int sd2, .int fc2])), (ta, .inl (G 2, 100, .inl t))] ++ ([(x, .inr (1, [.ref xa, .ref xb, .ref xc, .int (nI k2), .int (hq_z lab2), .int lb2, .int im2])), (xa, .inl (G 0, 12, .inl fh2)), (xb, .inl (G 0, 12, .inl fv2)), (xc, .inl (G 2, 12, .inl fl2)), (h, .inr (7, [.ref hl, .ref y, .ref rra, .int (nI od), .int (nI hd), .ref rsa, .int (nI so), .ref z, .ref o, .ref tl, .ref b, .ref mma, .ref vva, .int wc])), (rra, .inl (G 4, 4, .inr (.inr (.inr (.inr fr)))))] ++ Z)) := hD
    refine hq_vF (hq_rV (As := []) (rest := []) hx hb hml hown hts (c_Line_clear l D G A ([(x, .inr (1, [.ref xa, .ref xb, .ref xc, .int (nI k2), .int (hq_z lab2), .int lb2, .int im2])), (xa, .inl (G 0, 12, .inl fh2)), (xb, .inl (G 0, 12, .inl fv2)), (xc, .inl (G 2, 12, .inl fl2)), (h, .inr (7, [.ref hl, .ref y, .ref rra, .int (nI od), .int (nI hd), .ref rsa, .int (nI so), .ref z, .ref o, .ref tl, .ref b, .ref mma, .ref vva, .int wc])), (rra, .inl (G 4, 4, .inr (.inr (.inr (.inr fr)))))] ++ Z) hl ta t len ne2 pn2 lt2 sd2 fc2) yy_Line_clear lk_H_98 hA hK hN hS hPc hDc 0 2 rfl rfl rfl hl.1 rfl (Nat.le_of_ble_eq_true rfl) d_H_line_41 ⟨by decide, by decide⟩ ⟨by decide, by decide⟩) hS (fun H locs hP hD hS => ?_)
    have hP : va_P D hq_cl ([(hl, .inr (2, [.ref ta, .int (nI 0), .int ne2, .int pn2, .int lt2, .int sd2, .int fc2])), (ta, .inl (G 2, 100, .inl t)), (x, .inr (1, [.ref xa, .ref xb, .ref xc, .int (nI k2), .int (hq_z lab2), .int lb2, .int im2])), (xa, .inl (G 0, 12, .inl fh2)), (xb, .inl (G 0, 12, .inl fv2)), (xc, .inl (G 2, 12, .inl fl2)), (h, .inr (7, [.ref hl, .ref y, .ref rra, .int (nI od), .int (nI hd), .ref rsa, .int (nI so), .ref z, .ref o, .ref tl, .ref b, .ref mma, .ref vva, .int wc])), (rra, .inl (G 4, 4, .inr (.inr (.inr (.inr fr)))))] ++ Z) H := hP
    have hD : va_D A ([(hl, .inr (2, [.ref ta, .int (nI 0), .int ne2, .int pn2, .int lt2, .int sd2, .int fc2])), (ta, .inl (G 2, 100, .inl t)), (x, .inr (1, [.ref xa, .ref xb, .ref xc, .int (nI k2), .int (hq_z lab2), .int lb2, .int im2])), (xa, .inl (G 0, 12, .inl fh2)), (xb, .inl (G 0, 12, .inl fv2)), (xc, .inl (G 2, 12, .inl fl2)), (h, .inr (7, [.ref hl, .ref y, .ref rra, .int (nI od), .int (nI hd), .ref rsa, .int (nI so), .ref z, .ref o, .ref tl, .ref b, .ref mma, .ref vva, .int wc])), (rra, .inl (G 4, 4, .inr (.inr (.inr (.inr fr)))))] ++ Z) := hD
    refine lv_iload_n hx hb d_H_line_44 rfl (lv_at hl 0 rfl) ?_
    refine lv_if_ne (tgt := 60) hx hb d_H_line_45 rfl (fun c45 => ?_) (fun c45 => ?_)
    · exact absurd (by decide) c45
    · skip
      refine lv_aload_n hx hb d_H_line_48 rfl (lv_at hl 2 rfl) ?_
      refine lv_dup hx hb d_H_line_49 rfl ?_
      refine va_get (D := D) (ci := 7) (v := .int wc) (C := R_H) (T := F_H) (N := 14) hx hb hts uw_H hown hK hP 6 rfl rfl 13 (by decide) (hts _ fl_H_66) (fun _ h9 => h9) rfl d_H_line_50 ?_
      refine lv_iconst (v := 1) hx hb d_H_line_53 (by decide) ?_
      refine lv_iadd hx hb d_H_line_54 ?_
      refine va_put (D := D) (ci := 7) (v := .int (wc + 1)) (ty := .int) (C := R_H) (T := F_H) (N := 14) hx hb hts uw_H t_H t_H_ok n_H hown hK hP hD hS 6 rfl rfl 13 (by decide) (hts _ fl_H_66) (fun _ h9 => h9) rfl (by decide +kernel) (rfl) (rfl) (Nat.le_of_ble_eq_true rfl) d_H_line_55 (fun H locs hP hD hS => ?_)
      have hP : va_P D hq_cl ([(hl, .inr (2, [.ref ta, .int (nI 0), .int ne2, .int pn2, .int lt2, .int sd2, .int fc2])), (ta, .inl (G 2, 100, .inl t)), (x, .inr (1, [.ref xa, .ref xb, .ref xc, .int (nI k2), .int (hq_z lab2), .int lb2, .int im2])), (xa, .inl (G 0, 12, .inl fh2)), (xb, .inl (G 0, 12, .inl fv2)), (xc, .inl (G 2, 12, .inl fl2)), (h, .inr (7, [.ref hl, .ref y, .ref rra, .int (nI od), .int (nI hd), .ref rsa, .int (nI so), .ref z, .ref o, .ref tl, .ref b, .ref mma, .ref vva, .int (wc + 1)])), (rra, .inl (G 4, 4, .inr (.inr (.inr (.inr fr)))))] ++ Z) H := hP
      have hD : va_D A ([(hl, .inr (2, [.ref ta, .int (nI 0), .int ne2, .int pn2, .int lt2, .int sd2, .int fc2])), (ta, .inl (G 2, 100, .inl t)), (x, .inr (1, [.ref xa, .ref xb, .ref xc, .int (nI k2), .int (hq_z lab2), .int lb2, .int im2])), (xa, .inl (G 0, 12, .inl fh2)), (xb, .inl (G 0, 12, .inl fv2)), (xc, .inl (G 2, 12, .inl fl2)), (h, .inr (7, [.ref hl, .ref y, .ref rra, .int (nI od), .int (nI hd), .ref rsa, .int (nI so), .ref z, .ref o, .ref tl, .ref b, .ref mma, .ref vva, .int (wc + 1)])), (rra, .inl (G 4, 4, .inr (.inr (.inr (.inr fr)))))] ++ Z) := hD
      refine lv_iconst (v := (-1)) hx hb d_H_line_58 (by decide) ?_
      have hP := va_P.part (cx := [(h, .inr (7, [.ref hl, .ref y, .ref rra, .int (nI od), .int (nI hd), .ref rsa, .int (nI so), .ref z, .ref o, .ref tl, .ref b, .ref mma, .ref vva, .int (wc + 1)])), (rra, .inl (G 4, 4, .inr (.inr (.inr (.inr fr))))), (hl, .inr (2, [.ref ta, .int (nI 0), .int ne2, .int pn2, .int lt2, .int sd2, .int fc2])), (ta, .inl (G 2, 100, .inl t)), (x, .inr (1, [.ref xa, .ref xb, .ref xc, .int (nI k2), .int (hq_z lab2), .int lb2, .int im2])), (xa, .inl (G 0, 12, .inl fh2)), (xb, .inl (G 0, 12, .inl fv2)), (xc, .inl (G 2, 12, .inl fl2))]) hP [6, 7, 0, 1, 2, 3, 4, 5] rfl
      have hD := va_D.part (cx := [(h, .inr (7, [.ref hl, .ref y, .ref rra, .int (nI od), .int (nI hd), .ref rsa, .int (nI so), .ref z, .ref o, .ref tl, .ref b, .ref mma, .ref vva, .int (wc + 1)])), (rra, .inl (G 4, 4, .inr (.inr (.inr (.inr fr))))), (hl, .inr (2, [.ref ta, .int (nI 0), .int ne2, .int pn2, .int lt2, .int sd2, .int fc2])), (ta, .inl (G 2, 100, .inl t)), (x, .inr (1, [.ref xa, .ref xb, .ref xc, .int (nI k2), .int (hq_z lab2), .int lb2, .int im2])), (xa, .inl (G 0, 12, .inl fh2)), (xb, .inl (G 0, 12, .inl fv2)), (xc, .inl (G 2, 12, .inl fl2))]) hD [6, 7, 0, 1, 2, 3, 4, 5] (by decide) rfl
      exact hret (-1) ((lab2, lb2, im2), fh2, fv2, fl2, k2, ne2, pn2, lt2, sd2, fc2) H locs 59 ls d_H_line_59 (⟨rfl, hk2⟩) hP hD hS
  · -- 5 not taken
    have c5 : ¬ hd < 4 := fun h => c5 ((nI_ltI (a := hd) (b := 4) (by omega) (by omega)).mpr h)
    exact absurd (by omega) c5
set_option maxHeartbeats 4000000 in
set_option maxRecDepth 100000 in
theorem c_H_line_good (l : Launch) (D : va_G) (G : Nat → ClassId) (A : Nat → Prop) (Z : va_W) (h : Nat) (hl : Nat) (y : Nat) (rra : Nat) (od : Nat) (hd : Nat) (rsa : Nat) (so : Nat) (z : Nat) (o : Nat) (tl : Nat) (b : Nat) (mma : Nat) (vva : Nat) (wc : Int32) (fr : Nat → Option Nat) (ta : Nat) (t : Nat → Int32) (len : Nat) (ne : Int32) (pn : Int32) (lt : Int32) (sd : Int32) (fc : Int32) (x : Nat) (xa : Nat) (xb : Nat) (xc : Nat) (fh : Nat → Int32) (fv : Nat → Int32) (fl : Nat → Int32) (k : Nat) (lab : Bool) (lb : Int32) (im : Int32) (ya : Nat) (yb : Nat) (cl : Nat → Int32) (cr : Nat → Int32) (nc : Nat) (cd : Bool) (lab9 : Bool) (lb9 : Int32) (im9 : Int32) (L9 : List (Int32 × Int32 × Int32)) (hhd : hd < 4) (hod : od < 4) (hlen : len ≤ 100) (ht : ∀ q, q < len → hq_ch (t q)) (hk : k ≤ 12) (hfr : fr ((od + hd) % 4) = some x) (hpar : hq_par t len = some (lab9, lb9, im9, L9)) : hq_MI l D G A y_H_line b_H_line 3 .int 6 0 0 [.ref h] ([(h, .inr (7, [.ref hl, .ref y, .ref rra, .int (nI od), .int (nI hd), .ref rsa, .int (nI so), .ref z, .ref o, .ref tl, .ref b, .ref mma, .ref vva, .int wc])), (rra, .inl (G 4, 4, .inr (.inr (.inr (.inr fr))))), (hl, .inr (2, [.ref ta, .int (nI len), .int ne, .int pn, .int lt, .int sd, .int fc])), (ta, .inl (G 2, 100, .inl t)), (x, .inr (1, [.ref xa, .ref xb, .ref xc, .int (nI k), .int (hq_z lab), .int lb, .int im])), (xa, .inl (G 0, 12, .inl fh)), (xb, .inl (G 0, 12, .inl fv)), (xc, .inl (G 2, 12, .inl fl)), (y, .inr (0, [.ref ya, .ref yb, .int (nI nc), .int (hq_z cd)])), (ya, .inl (G 2, 3, .inl cl)), (yb, .inl (G 2, 3, .inl cr))] ++ Z) (fun r (u : (Bool × Int32 × Int32) × (Nat → Int32) × (Nat → Int32) × (Nat → Int32) × Nat × Int32 × Int32 × Int32 × Int32 × Int32) => r = nI L9.length ∧ u.1.1 = lab9 ∧ u.1.2.1 = lb9 ∧ u.1.2.2 = im9 ∧ hq_rep L9 u.2.1 u.2.2.1 u.2.2.2.1 u.2.2.2.2.1) (fun (u : (Bool × Int32 × Int32) × (Nat → Int32) × (Nat → Int32) × (Nat → Int32) × Nat × Int32 × Int32 × Int32 × Int32 × Int32) => [(h, .inr (7, [.ref hl, .ref y, .ref rra, .int (nI od), .int (nI (hd + 1)), .ref rsa, .int (nI so), .ref z, .ref o, .ref tl, .ref b, .ref mma, .ref vva, .int wc])), (rra, .inl (G 4, 4, .inr (.inr (.inr (.inr fr))))), (hl, .inr (2, [.ref ta, .int (nI 0), .int u.2.2.2.2.2.1, .int u.2.2.2.2.2.2.1, .int u.2.2.2.2.2.2.2.1, .int u.2.2.2.2.2.2.2.2.1, .int u.2.2.2.2.2.2.2.2.2])), (ta, .inl (G 2, 100, .inl t)), (x, .inr (1, [.ref xa, .ref xb, .ref xc, .int (nI u.2.2.2.2.1), .int (hq_z u.1.1), .int u.1.2.1, .int u.1.2.2])), (xa, .inl (G 0, 12, .inl u.2.1)), (xb, .inl (G 0, 12, .inl u.2.2.1)), (xc, .inl (G 2, 12, .inl u.2.2.2.1)), (y, .inr (0, [.ref ya, .ref yb, .int (nI nc), .int (hq_z true)])), (ya, .inl (G 2, 3, .inl cl)), (yb, .inl (G 2, 3, .inl cr))] ++ Z) := by
  refine hq_bI (by decide) (Nat.le_of_ble_eq_true rfl) (fun _ _ _ => rfl) ?_
  intro p e s m args below meth c Q hx hb hml hts hown hA hK hN hret ls H locs hl hP hD hS
  have hown : s.vm.findClass "HashedLearner" = some m.cls := hown
  have hl : lv_has ls 3 [(0, .ref h)] := hl
  refine lv_aload_n hx hb d_H_line_0 rfl (lv_at hl 0 rfl) ?_
  refine va_get (D := D) (ci := 7) (v := .int (nI hd)) (C := R_H) (T := F_H) (N := 14) hx hb hts uw_H hown hK hP 0 rfl rfl 4 (by decide) (hts _ fl_H_33) (fun _ h9 => h9) rfl d_H_line_1 ?_
  refine lv_iconst (v := 4) hx hb d_H_line_4 (by decide) ?_
  refine lv_icmp_lt (tgt := 11) hx hb d_H_line_5 rfl (fun c5 => ?_) (fun c5 => ?_)
  · -- 5 taken
    have c5 : hd < 4 := (nI_ltI (a := hd) (b := 4) (by omega) (by omega)).mp c5
    refine lv_aload_n hx hb d_H_line_11 rfl (lv_at hl 0 rfl) ?_
    refine va_get (D := D) (ci := 7) (v := .ref rra) (C := R_H) (T := F_H) (N := 14) hx hb hts uw_H hown hK hP 0 rfl rfl 2 (by decide) (hts _ fl_H_25) (fun _ h9 => h9) rfl d_H_line_12 ?_
    refine lv_aload_n hx hb d_H_line_15 rfl (lv_at hl 0 rfl) ?_
    refine va_get (D := D) (ci := 7) (v := .int (nI od)) (C := R_H) (T := F_H) (N := 14) hx hb hts uw_H hown hK hP 0 rfl rfl 3 (by decide) (hts _ fl_H_29) (fun _ h9 => h9) rfl d_H_line_16 ?_
    refine lv_aload_n hx hb d_H_line_19 rfl (lv_at hl 0 rfl) ?_
    refine va_get (D := D) (ci := 7) (v := .int (nI hd)) (C := R_H) (T := F_H) (N := 14) hx hb hts uw_H hown hK hP 0 rfl rfl 4 (by decide) (hts _ fl_H_33) (fun _ h9 => h9) rfl d_H_line_20 ?_
    refine lv_iadd hx hb d_H_line_23 ?_
    refine hq_topi (x' := nI (od + hd)) (nI_add od hd) ?_
    refine lv_iconst (v := 4) hx hb d_H_line_24 (by decide) ?_
    refine lv_irem hx hb d_H_line_25 (by decide) ?_
    refine hq_topi (x' := nI ((od + hd) % 4)) (pk_rem (d := 4) (by omega) (by decide) (by decide)) ?_
    refine hq_aald (j := (od + hd) % 4) hx hb hK hP 1 4 rfl rfl (by omega) (by omega) d_H_line_26 ?_
    refine hq_topq (y := x) (hfr) ?_
    refine lv_astore_n (nL := 3) (lv' := [(1, .ref x), (0, .ref h)]) hx hb d_H_line_27 rfl hl (by decide) rfl (fun ls hl => ?_)
    refine lv_aload_n hx hb d_H_line_28 rfl (lv_at hl 1 rfl) ?_
    refine va_get (D := D) (ci := 7) (v := .ref hl) (C := R_H) (T := F_H) (N := 14) hx hb hts uw_H hown hK hP 0 rfl rfl 0 (by decide) (hts _ fl_H_12) (fun _ h9 => h9) rfl d_H_line_29 ?_
    refine lv_aload_n hx hb d_H_line_32 rfl (lv_at hl 0 rfl) ?_
    have hPc : va_P D hq_cl ([(hl, .inr (2, [.ref ta, .int (nI len), .int ne, .int pn, .int lt, .int sd, .int fc])), (ta, .inl (G 2, 100, .inl t)), (x, .inr (1, [.ref xa, .ref xb, .ref xc, .int (nI k), .int (hq_z lab), .int lb, .int im])), (xa, .inl (G 0, 12, .inl fh)), (xb, .inl (G 0, 12, .inl fv)), (xc, .inl (G 2, 12, .inl fl))] ++ ([(h, .inr (7, [.ref hl, .ref y, .ref rra, .int (nI od), .int (nI hd), .ref rsa, .int (nI so), .ref z, .ref o, .ref tl, .ref b, .ref mma, .ref vva, .int wc])), (rra, .inl (G 4, 4, .inr (.inr (.inr (.inr fr))))), (y, .inr (0, [.ref ya, .ref yb, .int (nI nc), .int (hq_z cd)])), (ya, .inl (G 2, 3, .inl cl)), (yb, .inl (G 2, 3, .inl cr))] ++ Z)) H := va_P.part (cx := [(hl, .inr (2, [.ref ta, .int (nI len), .int ne, .int pn, .int lt, .int sd, .int fc])), (ta, .inl (G 2, 100, .inl t)), (x, .inr (1, [.ref xa, .ref xb, .ref xc, .int (nI k), .int (hq_z lab), .int lb, .int im])), (xa, .inl (G 0, 12, .inl fh)), (xb, .inl (G 0, 12, .inl fv)), (xc, .inl (G 2, 12, .inl fl)), (h, .inr (7, [.ref hl, .ref y, .ref rra, .int (nI od), .int (nI hd), .ref rsa, .int (nI so), .ref z, .ref o, .ref tl, .ref b, .ref mma, .ref vva, .int wc])), (rra, .inl (G 4, 4, .inr (.inr (.inr (.inr fr))))), (y, .inr (0, [.ref ya, .ref yb, .int (nI nc), .int (hq_z cd)])), (ya, .inl (G 2, 3, .inl cl)), (yb, .inl (G 2, 3, .inl cr))]) hP [2, 3, 4, 5, 6, 7, 0, 1, 8, 9, 10] rfl
    have hDc : va_D A ([(hl, .inr (2, [.ref ta, .int (nI len), .int ne, .int pn, .int lt, .int sd, .int fc])), (ta, .inl (G 2, 100, .inl t)), (x, .inr (1, [.ref xa, .ref xb, .ref xc, .int (nI k), .int (hq_z lab), .int lb, .int im])), (xa, .inl (G 0, 12, .inl fh)), (xb, .inl (G 0, 12, .inl fv)), (xc, .inl (G 2, 12, .inl fl))] ++ ([(h, .inr (7, [.ref hl, .ref y, .ref rra, .int (nI od), .int (nI hd), .ref rsa, .int (nI so), .ref z, .ref o, .ref tl, .ref b, .ref mma, .ref vva, .int wc])), (rra, .inl (G 4, 4, .inr (.inr (.inr (.inr fr))))), (y, .inr (0, [.ref ya, .ref yb, .int (nI nc), .int (hq_z cd)])), (ya, .inl (G 2, 3, .inl cl)), (yb, .inl (G 2, 3, .inl cr))] ++ Z)) := va_D.part (cx := [(hl, .inr (2, [.ref ta, .int (nI len), .int ne, .int pn, .int lt, .int sd, .int fc])), (ta, .inl (G 2, 100, .inl t)), (x, .inr (1, [.ref xa, .ref xb, .ref xc, .int (nI k), .int (hq_z lab), .int lb, .int im])), (xa, .inl (G 0, 12, .inl fh)), (xb, .inl (G 0, 12, .inl fv)), (xc, .inl (G 2, 12, .inl fl)), (h, .inr (7, [.ref hl, .ref y, .ref rra, .int (nI od), .int (nI hd), .ref rsa, .int (nI so), .ref z, .ref o, .ref tl, .ref b, .ref mma, .ref vva, .int wc])), (rra, .inl (G 4, 4, .inr (.inr (.inr (.inr fr))))), (y, .inr (0, [.ref ya, .ref yb, .int (nI nc), .int (hq_z cd)])), (ya, .inl (G 2, 3, .inl cl)), (yb, .inl (G 2, 3, .inl cr))]) hD [2, 3, 4, 5, 6, 7, 0, 1, 8, 9, 10] (by decide) rfl
    refine hq_i (hq_rV (As := [.ref x]) (rest := []) hx hb hml hown hts (c_Line_readInto l D G A ([(h, .inr (7, [.ref hl, .ref y, .ref rra, .int (nI od), .int (nI hd), .ref rsa, .int (nI so), .ref z, .ref o, .ref tl, .ref b, .ref mma, .ref vva, .int wc])), (rra, .inl (G 4, 4, .inr (.inr (.inr (.inr fr))))), (y, .inr (0, [.ref ya, .ref yb, .int (nI nc), .int (hq_z cd)])), (ya, .inl (G 2, 3, .inl cl)), (yb, .inl (G 2, 3, .inl cr))] ++ Z) hl ta t len ne pn lt sd fc x xa xb xc fh fv fl k lab lb im (by first | assumption | omega) (by first | assumption | omega) (by first | assumption | omega)) yy_Line_readInto lk_H_94 hA hK hN hS hPc hDc 0 2 rfl rfl rfl hl.1 rfl (Nat.le_of_ble_eq_true rfl) d_H_line_33 ⟨by decide, by decide⟩ ⟨by decide, by decide⟩) hS (fun r33 u33 H locs w33 hP hD hS => ?_)
    have hP : va_P D hq_cl ([(hl, .inr (2, [.ref ta, .int (nI len), .int u33.2.2.2.2.2.1, .int u33.2.2.2.2.2.2.1, .int u33.2.2.2.2.2.2.2.1, .int u33.2.2.2.2.2.2.2.2.1, .int u33.2.2.2.2.2.2.2.2.2])), (ta, .inl (G 2, 100, .inl t)), (x, .inr (1, [.ref xa, .ref xb, .ref xc, .int (nI u33.2.2.2.2.1), .int (hq_z u33.1.1), .int u33.1.2.1, .int u33.1.2.2])), (xa, .inl (G 0, 12, .inl u33.2.1)), (xb, .inl (G 0, 12, .inl u33.2.2.1)), (xc, .inl (G 2, 12, .inl u33.2.2.2.1)), (h, .inr (7, [.ref hl, .ref y, .ref rra, .int (nI od), .int (nI hd), .ref rsa, .int (nI so), .ref z, .ref o, .ref tl, .ref b, .ref mma, .ref vva, .int wc])), (rra, .inl (G 4, 4, .inr (.inr (.inr (.inr fr))))), (y, .inr (0, [.ref ya, .ref yb, .int (nI nc), .int (hq_z cd)])), (ya, .inl (G 2, 3, .inl cl)), (yb, .inl (G 2, 3, .inl cr))] ++ Z) H := hP
    have hD : va_D A ([(hl, .inr (2, [.ref ta, .int (nI len), .int u33.2.2.2.2.2.1, .int u33.2.2.2.2.2.2.1, .int u33.2.2.2.2.2.2.2.1, .int u33.2.2.2.2.2.2.2.2.1, .int u33.2.2.2.2.2.2.2.2.2])), (ta, .inl (G 2, 100, .inl t)), (x, .inr (1, [.ref xa, .ref xb, .ref xc, .int (nI u33.2.2.2.2.1), .int (hq_z u33.1.1), .int u33.1.2.1, .int u33.1.2.2])), (xa, .inl (G 0, 12, .inl u33.2.1)), (xb, .inl (G 0, 12, .inl u33.2.2.1)), (xc, .inl (G 2, 12, .inl u33.2.2.2.1)), (h, .inr (7, [.ref hl, .ref y, .ref rra, .int (nI od), .int (nI hd), .ref rsa, .int (nI so), .ref z, .ref o, .ref tl, .ref b, .ref mma, .ref vva, .int wc])), (rra, .inl (G 4, 4, .inr (.inr (.inr (.inr fr))))), (y, .inr (0, [.ref ya, .ref yb, .int (nI nc), .int (hq_z cd)])), (ya, .inl (G 2, 3, .inl cl)), (yb, .inl (G 2, 3, .inl cr))] ++ Z) := hD
    obtain ⟨⟨lab2, lb2, im2⟩, fh2, fv2, fl2, k2, ne2, pn2, lt2, sd2, fc2⟩ := u33
    obtain ⟨w33, hk2, hR2⟩ := w33
    obtain ⟨e1, e2, e3, hr2⟩ := hR2 _ hpar
    rw [hpar] at w33
    have w33 : r33 = 1 := w33
    subst w33
    have hP : va_P D hq_cl ([(hl, .inr (2, [.ref ta, .int (nI len), .int ne2, .int pn2, .int lt2, .int sd2, .int fc2])), (ta, .inl (G 2, 100, .inl t)), (x, .inr (1, [.ref xa, .ref xb, .ref xc, .int (nI k2), .int (hq_z lab2), .int lb2, .int im2])), (xa, .inl (G 0, 12, .inl fh2)), (xb, .inl (G 0, 12, .inl fv2)), (xc, .inl (G 2, 12, .inl fl2)), (h, .inr (7, [.ref hl, .ref y, .ref rra, .int (nI od), .int (nI hd), .ref rsa, .int (nI so), .ref z, .ref o, .ref tl, .ref b, .ref mma, .ref vva, .int wc])), (rra, .inl (G 4, 4, .inr (.inr (.inr (.inr fr))))), (y, .inr (0, [.ref ya, .ref yb, .int (nI nc), .int (hq_z cd)])), (ya, .inl (G 2, 3, .inl cl)), (yb, .inl (G 2, 3, .inl cr))] ++ Z) H := hP
    have hD : va_D A ([(hl, .inr (2, [.ref ta, .int (nI len), .int ne2, .int pn2, .int lt2, .int sd2, .int fc2])), (ta, .inl (G 2, 100, .inl t)), (x, .inr (1, [.ref xa, .ref xb, .ref xc, .int (nI k2), .int (hq_z lab2), .int lb2, .int im2])), (xa, .inl (G 0, 12, .inl fh2)), (xb, .inl (G 0, 12, .inl fv2)), (xc, .inl (G 2, 12, .inl fl2)), (h, .inr (7, [.ref hl, .ref y, .ref rra, .int (nI od), .int (nI hd), .ref rsa, .int (nI so), .ref z, .ref o, .ref tl, .ref b, .ref mma, .ref vva, .int wc])), (rra, .inl (G 4, 4, .inr (.inr (.inr (.inr fr))))), (y, .inr (0, [.ref ya, .ref yb, .int (nI nc), .int (hq_z cd)])), (ya, .inl (G 2, 3, .inl cl)), (yb, .inl (G 2, 3, .inl cr))] ++ Z) := hD
    refine lv_istore_n (nL := 3) (lv' := [(2, .int 1), (1, .ref x), (0, .ref h)]) hx hb d_H_line_36 rfl hl (by decide) rfl (fun ls hl => ?_)
    refine lv_aload_n hx hb d_H_line_37 rfl (lv_at hl 2 rfl) ?_
    refine va_get (D := D) (ci := 7) (v := .ref hl) (C := R_H) (T := F_H) (N := 14) hx hb hts uw_H hown hK hP 6 rfl rfl 0 (by decide) (hts _ fl_H_12) (fun _ h9 => h9) rfl d_H_line_38 ?_
    have hPc : va_P D hq_cl ([(hl, .inr (2, [.ref ta, .int (nI len), .int ne2, .int pn2, .int lt2, .int sd2, .int fc2])), (ta, .inl (G 2, 100, .inl t))] ++ ([(x, .inr (1, [.ref xa, .ref xb, .ref xc, .int (nI k2), .int (hq_z lab2), .int lb2, .int im2])), (xa, .inl (G 0, 12, .inl fh2)), (xb, .inl (G 0, 12, .inl fv2)), (xc, .inl (G 2, 12, .inl fl2)), (h, .inr (7, [.ref hl, .ref y, .ref rra, .int (nI od), .int (nI hd), .ref rsa, .int (nI so), .ref z, .ref o, .ref tl, .ref b, .ref mma, .ref vva, .int wc])), (rra, .inl (G 4, 4, .inr (.inr (.inr (.inr fr))))), (y, .inr (0, [.ref ya, .ref yb, .int (nI nc), .int (hq_z cd)])), (ya, .inl (G 2, 3, .inl cl)), (yb, .inl (G 2, 3, .inl cr))] ++ Z)) H := hP
    have hDc : va_D A ([(hl, .inr (2, [.ref ta, .int (nI len), .int ne2, .int pn2, .int lt2, .int sd2, .int fc2])), (ta, .inl (G 2, 100, .inl t))] ++ ([(x, .inr (1, [.ref xa, .ref xb, .ref xc, .int (nI k2), .int (hq_z lab2), .int lb2, .int im2])), (xa, .inl (G 0, 12, .inl fh2)), (xb, .inl (G 0, 12, .inl fv2)), (xc, .inl (G 2, 12, .inl fl2)), (h, .inr (7, [.ref hl, .ref y, .ref rra, .int (nI od), .int (nI hd), .ref rsa, .int (nI so), .ref z, .ref o, .ref tl, .ref b, .ref mma, .ref vva, .int wc])), (rra, .inl (G 4, 4, .inr (.inr (.inr (.inr fr))))), (y, .inr (0, [.ref ya, .ref yb, .int (nI nc), .int (hq_z cd)])), (ya, .inl (G 2, 3, .inl cl)), (yb, .inl (G 2, 3, .inl cr))] ++ Z)) := hD
    refine hq_vF (hq_rV (As := []) (rest := []) hx hb hml hown hts (c_Line_clear l D G A ([(x, .inr (1, [.ref xa, .ref xb, .ref xc, .int (nI k2), .int (hq_z lab2), .int lb2, .int im2])), (xa, .inl (G 0, 12, .inl fh2)), (xb, .inl (G 0, 12, .inl fv2)), (xc, .inl (G 2, 12, .inl fl2)), (h, .inr (7, [.ref hl, .ref y, .ref rra, .int (nI od), .int (nI hd), .ref rsa, .int (nI so), .ref z, .ref o, .ref tl, .ref b, .ref mma, .ref vva, .int wc])), (rra, .inl (G 4, 4, .inr (.inr (.inr (.inr fr))))), (y, .inr (0, [.ref ya, .ref yb, .int (nI nc), .int (hq_z cd)])), (ya, .inl (G 2, 3, .inl cl)), (yb, .inl (G 2, 3, .inl cr))] ++ Z) hl ta t len ne2 pn2 lt2 sd2 fc2) yy_Line_clear lk_H_98 hA hK hN hS hPc hDc 0 2 rfl rfl rfl hl.1 rfl (Nat.le_of_ble_eq_true rfl) d_H_line_41 ⟨by decide, by decide⟩ ⟨by decide, by decide⟩) hS (fun H locs hP hD hS => ?_)
    have hP : va_P D hq_cl ([(hl, .inr (2, [.ref ta, .int (nI 0), .int ne2, .int pn2, .int lt2, .int sd2, .int fc2])), (ta, .inl (G 2, 100, .inl t)), (x, .inr (1, [.ref xa, .ref xb, .ref xc, .int (nI k2), .int (hq_z lab2), .int lb2, .int im2])), (xa, .inl (G 0, 12, .inl fh2)), (xb, .inl (G 0, 12, .inl fv2)), (xc, .inl (G 2, 12, .inl fl2)), (h, .inr (7, [.ref hl, .ref y, .ref rra, .int (nI od), .int (nI hd), .ref rsa, .int (nI so), .ref z, .ref o, .ref tl, .ref b, .ref mma, .ref vva, .int wc])), (rra, .inl (G 4, 4, .inr (.inr (.inr (.inr fr))))), (y, .inr (0, [.ref ya, .ref yb, .int (nI nc), .int (hq_z cd)])), (ya, .inl (G 2, 3, .inl cl)), (yb, .inl (G 2, 3, .inl cr))] ++ Z) H := hP
    have hD : va_D A ([(hl, .inr (2, [.ref ta, .int (nI 0), .int ne2, .int pn2, .int lt2, .int sd2, .int fc2])), (ta, .inl (G 2, 100, .inl t)), (x, .inr (1, [.ref xa, .ref xb, .ref xc, .int (nI k2), .int (hq_z lab2), .int lb2, .int im2])), (xa, .inl (G 0, 12, .inl fh2)), (xb, .inl (G 0, 12, .inl fv2)), (xc, .inl (G 2, 12, .inl fl2)), (h, .inr (7, [.ref hl, .ref y, .ref rra, .int (nI od), .int (nI hd), .ref rsa, .int (nI so), .ref z, .ref o, .ref tl, .ref b, .ref mma, .ref vva, .int wc])), (rra, .inl (G 4, 4, .inr (.inr (.inr (.inr fr))))), (y, .inr (0, [.ref ya, .ref yb, .int (nI nc), .int (hq_z cd)])), (ya, .inl (G 2, 3, .inl cl)), (yb, .inl (G 2, 3, .inl cr))] ++ Z) := hD
    refine lv_iload_n hx hb d_H_line_44 rfl (lv_at hl 0 rfl) ?_
    refine lv_if_ne (tgt := 60) hx hb d_H_line_45 rfl (fun c45 => ?_) (fun c45 => ?_)
    · skip
      refine lv_aload_n hx hb d_H_line_60 rfl (lv_at hl 2 rfl) ?_
      refine lv_dup hx hb d_H_line_61 rfl ?_
      refine va_get (D := D) (ci := 7) (v := .int (nI hd)) (C := R_H) (T := F_H) (N := 14) hx hb hts uw_H hown hK hP 6 rfl rfl 4 (by decide) (hts _ fl_H_33) (fun _ h9 => h9) rfl d_H_line_62 ?_
      refine lv_iconst (v := 1) hx hb d_H_line_65 (by decide) ?_
      refine lv_iadd hx hb d_H_line_66 ?_
      refine hq_topi (x' := nI (hd + 1)) (nI_add hd 1) ?_
      refine va_put (D := D) (ci := 7) (v := .int (nI (hd + 1))) (ty := .int) (C := R_H) (T := F_H) (N := 14) hx hb hts uw_H t_H t_H_ok n_H hown hK hP hD hS 6 rfl rfl 4 (by decide) (hts _ fl_H_33) (fun _ h9 => h9) rfl (by decide +kernel) (rfl) (rfl) (Nat.le_of_ble_eq_true rfl) d_H_line_67 (fun H locs hP hD hS => ?_)
      have hP : va_P D hq_cl ([(hl, .inr (2, [.ref ta, .int (nI 0), .int ne2, .int pn2, .int lt2, .int sd2, .int fc2])), (ta, .inl (G 2, 100, .inl t)), (x, .inr (1, [.ref xa, .ref xb, .ref xc, .int (nI k2), .int (hq_z lab2), .int lb2, .int im2])), (xa, .inl (G 0, 12, .inl fh2)), (xb, .inl (G 0, 12, .inl fv2)), (xc, .inl (G 2, 12, .inl fl2)), (h, .inr (7, [.ref hl, .ref y, .ref rra, .int (nI od), .int (nI (hd + 1)), .ref rsa, .int (nI so), .ref z, .ref o, .ref tl, .ref b, .ref mma, .ref vva, .int wc])), (rra, .inl (G 4, 4, .inr (.inr (.inr (.inr fr))))), (y, .inr (0, [.ref ya, .ref yb, .int (nI nc), .int (hq_z cd)])), (ya, .inl (G 2, 3, .inl cl)), (yb, .inl (G 2, 3, .inl cr))] ++ Z) H := hP
      have hD : va_D A ([(hl, .inr (2, [.ref ta, .int (nI 0), .int ne2, .int pn2, .int lt2, .int sd2, .int fc2])), (ta, .inl (G 2, 100, .inl t)), (x, .inr (1, [.ref xa, .ref xb, .ref xc, .int (nI k2), .int (hq_z lab2), .int lb2, .int im2])), (xa, .inl (G 0, 12, .inl fh2)), (xb, .inl (G 0, 12, .inl fv2)), (xc, .inl (G 2, 12, .inl fl2)), (h, .inr (7, [.ref hl, .ref y, .ref rra, .int (nI od), .int (nI (hd + 1)), .ref rsa, .int (nI so), .ref z, .ref o, .ref tl, .ref b, .ref mma, .ref vva, .int wc])), (rra, .inl (G 4, 4, .inr (.inr (.inr (.inr fr))))), (y, .inr (0, [.ref ya, .ref yb, .int (nI nc), .int (hq_z cd)])), (ya, .inl (G 2, 3, .inl cl)), (yb, .inl (G 2, 3, .inl cr))] ++ Z) := hD
      refine lv_aload_n hx hb d_H_line_70 rfl (lv_at hl 2 rfl) ?_
      refine va_get (D := D) (ci := 7) (v := .ref y) (C := R_H) (T := F_H) (N := 14) hx hb hts uw_H hown hK hP 6 rfl rfl 1 (by decide) (hts _ fl_H_19) (fun _ h9 => h9) rfl d_H_line_71 ?_
      have hPc : va_P D hq_cl ([(y, .inr (0, [.ref ya, .ref yb, .int (nI nc), .int (hq_z cd)])), (ya, .inl (G 2, 3, .inl cl)), (yb, .inl (G 2, 3, .inl cr))] ++ ([(hl, .inr (2, [.ref ta, .int (nI 0), .int ne2, .int pn2, .int lt2, .int sd2, .int fc2])), (ta, .inl (G 2, 100, .inl t)), (x, .inr (1, [.ref xa, .ref xb, .ref xc, .int (nI k2), .int (hq_z lab2), .int lb2, .int im2])), (xa, .inl (G 0, 12, .inl fh2)), (xb, .inl (G 0, 12, .inl fv2)), (xc, .inl (G 2, 12, .inl fl2)), (h, .inr (7, [.ref hl, .ref y, .ref rra, .int (nI od), .int (nI (hd + 1)), .ref rsa, .int (nI so), .ref z, .ref o, .ref tl, .ref b, .ref mma, .ref vva, .int wc])), (rra, .inl (G 4, 4, .inr (.inr (.inr (.inr fr)))))] ++ Z)) H := va_P.part (cx := [(y, .inr (0, [.ref ya, .ref yb, .int (nI nc), .int (hq_z cd)])), (ya, .inl (G 2, 3, .inl cl)), (yb, .inl (G 2, 3, .inl cr)), (hl, .inr (2, [.ref ta, .int (nI 0), .int ne2, .int pn2, .int lt2, .int sd2, .int fc2])), (ta, .inl (G 2, 100, .inl t)), (x, .inr (1, [.ref xa, .ref xb, .ref xc, .int (nI k2), .int (hq_z lab2), .int lb2, .int im2])), (xa, .inl (G 0, 12, .inl fh2)), (xb, .inl (G 0, 12, .inl fv2)), (xc, .inl (G 2, 12, .inl fl2)), (h, .inr (7, [.ref hl, .ref y, .ref rra, .int (nI od), .int (nI (hd + 1)), .ref rsa, .int (nI so), .ref z, .ref o, .ref tl, .ref b, .ref mma, .ref vva, .int wc])), (rra, .inl (G 4, 4, .inr (.inr (.inr (.inr fr)))))]) hP [8, 9, 10, 0, 1, 2, 3, 4, 5, 6, 7] rfl
      have hDc : va_D A ([(y, .inr (0, [.ref ya, .ref yb, .int (nI nc), .int (hq_z cd)])), (ya, .inl (G 2, 3, .inl cl)), (yb, .inl (G 2, 3, .inl cr))] ++ ([(hl, .inr (2, [.ref ta, .int (nI 0), .int ne2, .int pn2, .int lt2, .int sd2, .int fc2])), (ta, .inl (G 2, 100, .inl t)), (x, .inr (1, [.ref xa, .ref xb, .ref xc, .int (nI k2), .int (hq_z lab2), .int lb2, .int im2])), (xa, .inl (G 0, 12, .inl fh2)), (xb, .inl (G 0, 12, .inl fv2)), (xc, .inl (G 2, 12, .inl fl2)), (h, .inr (7, [.ref hl, .ref y, .ref rra, .int (nI od), .int (nI (hd + 1)), .ref rsa, .int (nI so), .ref z, .ref o, .ref tl, .ref b, .ref mma, .ref vva, .int wc])), (rra, .inl (G 4, 4, .inr (.inr (.inr (.inr fr)))))] ++ Z)) := va_D.part (cx := [(y, .inr (0, [.ref ya, .ref yb, .int (nI nc), .int (hq_z cd)])), (ya, .inl (G 2, 3, .inl cl)), (yb, .inl (G 2, 3, .inl cr)), (hl, .inr (2, [.ref ta, .int (nI 0), .int ne2, .int pn2, .int lt2, .int sd2, .int fc2])), (ta, .inl (G 2, 100, .inl t)), (x, .inr (1, [.ref xa, .ref xb, .ref xc, .int (nI k2), .int (hq_z lab2), .int lb2, .int im2])), (xa, .inl (G 0, 12, .inl fh2)), (xb, .inl (G 0, 12, .inl fv2)), (xc, .inl (G 2, 12, .inl fl2)), (h, .inr (7, [.ref hl, .ref y, .ref rra, .int (nI od), .int (nI (hd + 1)), .ref rsa, .int (nI so), .ref z, .ref o, .ref tl, .ref b, .ref mma, .ref vva, .int wc])), (rra, .inl (G 4, 4, .inr (.inr (.inr (.inr fr)))))]) hD [8, 9, 10, 0, 1, 2, 3, 4, 5, 6, 7] (by decide) rfl
      refine hq_vF (hq_rV (As := []) (rest := []) hx hb hml hown hts (c_Crossings_close l D G A ([(hl, .inr (2, [.ref ta, .int (nI 0), .int ne2, .int pn2, .int lt2, .int sd2, .int fc2])), (ta, .inl (G 2, 100, .inl t)), (x, .inr (1, [.ref xa, .ref xb, .ref xc, .int (nI k2), .int (hq_z lab2), .int lb2, .int im2])), (xa, .inl (G 0, 12, .inl fh2)), (xb, .inl (G 0, 12, .inl fv2)), (xc, .inl (G 2, 12, .inl fl2)), (h, .inr (7, [.ref hl, .ref y, .ref rra, .int (nI od), .int (nI (hd + 1)), .ref rsa, .int (nI so), .ref z, .ref o, .ref tl, .ref b, .ref mma, .ref vva, .int wc])), (rra, .inl (G 4, 4, .inr (.inr (.inr (.inr fr)))))] ++ Z) y ya yb cl cr nc cd) yy_Crossings_close lk_H_101 hA hK hN hS hPc hDc 0 0 rfl rfl rfl hl.1 rfl (Nat.le_of_ble_eq_true rfl) d_H_line_74 ⟨by decide, by decide⟩ ⟨by decide, by decide⟩) hS (fun H locs hP hD hS => ?_)
      have hP : va_P D hq_cl ([(y, .inr (0, [.ref ya, .ref yb, .int (nI nc), .int (hq_z true)])), (ya, .inl (G 2, 3, .inl cl)), (yb, .inl (G 2, 3, .inl cr)), (hl, .inr (2, [.ref ta, .int (nI 0), .int ne2, .int pn2, .int lt2, .int sd2, .int fc2])), (ta, .inl (G 2, 100, .inl t)), (x, .inr (1, [.ref xa, .ref xb, .ref xc, .int (nI k2), .int (hq_z lab2), .int lb2, .int im2])), (xa, .inl (G 0, 12, .inl fh2)), (xb, .inl (G 0, 12, .inl fv2)), (xc, .inl (G 2, 12, .inl fl2)), (h, .inr (7, [.ref hl, .ref y, .ref rra, .int (nI od), .int (nI (hd + 1)), .ref rsa, .int (nI so), .ref z, .ref o, .ref tl, .ref b, .ref mma, .ref vva, .int wc])), (rra, .inl (G 4, 4, .inr (.inr (.inr (.inr fr)))))] ++ Z) H := hP
      have hD : va_D A ([(y, .inr (0, [.ref ya, .ref yb, .int (nI nc), .int (hq_z true)])), (ya, .inl (G 2, 3, .inl cl)), (yb, .inl (G 2, 3, .inl cr)), (hl, .inr (2, [.ref ta, .int (nI 0), .int ne2, .int pn2, .int lt2, .int sd2, .int fc2])), (ta, .inl (G 2, 100, .inl t)), (x, .inr (1, [.ref xa, .ref xb, .ref xc, .int (nI k2), .int (hq_z lab2), .int lb2, .int im2])), (xa, .inl (G 0, 12, .inl fh2)), (xb, .inl (G 0, 12, .inl fv2)), (xc, .inl (G 2, 12, .inl fl2)), (h, .inr (7, [.ref hl, .ref y, .ref rra, .int (nI od), .int (nI (hd + 1)), .ref rsa, .int (nI so), .ref z, .ref o, .ref tl, .ref b, .ref mma, .ref vva, .int wc])), (rra, .inl (G 4, 4, .inr (.inr (.inr (.inr fr)))))] ++ Z) := hD
      refine lv_aload_n hx hb d_H_line_77 rfl (lv_at hl 1 rfl) ?_
      refine va_get (D := D) (ci := 1) (v := .int (nI k2)) (C := R_Example) (T := F_Example) (N := 7) hx hb hts uw_Example hown hK hP 5 rfl rfl 3 (by decide) (hts _ fl_H_104) (fun _ h9 => h9) rfl d_H_line_78 ?_
      have hP := va_P.part (cx := [(h, .inr (7, [.ref hl, .ref y, .ref rra, .int (nI od), .int (nI (hd + 1)), .ref rsa, .int (nI so), .ref z, .ref o, .ref tl, .ref b, .ref mma, .ref vva, .int wc])), (rra, .inl (G 4, 4, .inr (.inr (.inr (.inr fr))))), (hl, .inr (2, [.ref ta, .int (nI 0), .int ne2, .int pn2, .int lt2, .int sd2, .int fc2])), (ta, .inl (G 2, 100, .inl t)), (x, .inr (1, [.ref xa, .ref xb, .ref xc, .int (nI k2), .int (hq_z lab2), .int lb2, .int im2])), (xa, .inl (G 0, 12, .inl fh2)), (xb, .inl (G 0, 12, .inl fv2)), (xc, .inl (G 2, 12, .inl fl2)), (y, .inr (0, [.ref ya, .ref yb, .int (nI nc), .int (hq_z true)])), (ya, .inl (G 2, 3, .inl cl)), (yb, .inl (G 2, 3, .inl cr))]) hP [9, 10, 3, 4, 5, 6, 7, 8, 0, 1, 2] rfl
      have hD := va_D.part (cx := [(h, .inr (7, [.ref hl, .ref y, .ref rra, .int (nI od), .int (nI (hd + 1)), .ref rsa, .int (nI so), .ref z, .ref o, .ref tl, .ref b, .ref mma, .ref vva, .int wc])), (rra, .inl (G 4, 4, .inr (.inr (.inr (.inr fr))))), (hl, .inr (2, [.ref ta, .int (nI 0), .int ne2, .int pn2, .int lt2, .int sd2, .int fc2])), (ta, .inl (G 2, 100, .inl t)), (x, .inr (1, [.ref xa, .ref xb, .ref xc, .int (nI k2), .int (hq_z lab2), .int lb2, .int im2])), (xa, .inl (G 0, 12, .inl fh2)), (xb, .inl (G 0, 12, .inl fv2)), (xc, .inl (G 2, 12, .inl fl2)), (y, .inr (0, [.ref ya, .ref yb, .int (nI nc), .int (hq_z true)])), (ya, .inl (G 2, 3, .inl cl)), (yb, .inl (G 2, 3, .inl cr))]) hD [9, 10, 3, 4, 5, 6, 7, 8, 0, 1, 2] (by decide) rfl
      exact hret (nI k2) ((lab2, lb2, im2), fh2, fv2, fl2, k2, ne2, pn2, lt2, sd2, fc2) H locs 81 ls d_H_line_81 (⟨congrArg nI hr2.1.symm, e1, e2, e3, hr2⟩) hP hD hS
    · exact absurd c45 (by decide)
  · -- 5 not taken
    have c5 : ¬ hd < 4 := fun h => c5 ((nI_ltI (a := hd) (b := 4) (by omega) (by omega)).mpr h)
    exact absurd (by omega) c5
theorem d_H_peek_0 : decode b_H_peek 0 = .ok (.aload_n 0, 1) := by decide +kernel
theorem d_H_peek_1 : decode b_H_peek 1 = .ok (.getfield 33, 3) := by decide +kernel
theorem d_H_peek_4 : decode b_H_peek 4 = .ok (.ifCond .ne (8), 3) := by decide +kernel
theorem d_H_peek_7 : decode b_H_peek 7 = .ok (.ldc 107, 2) := by decide +kernel
theorem d_H_peek_9 : decode b_H_peek 9 = .ok (.goto (16), 3) := by decide +kernel
theorem d_H_peek_12 : decode b_H_peek 12 = .ok (.aload_n 0, 1) := by decide +kernel
theorem d_H_peek_13 : decode b_H_peek 13 = .ok (.aload_n 0, 1) := by decide +kernel
theorem d_H_peek_14 : decode b_H_peek 14 = .ok (.getfield 25, 3) := by decide +kernel
theorem d_H_peek_17 : decode b_H_peek 17 = .ok (.aload_n 0, 1) := by decide +kernel
theorem d_H_peek_18 : decode b_H_peek 18 = .ok (.getfield 29, 3) := by decide +kernel
theorem d_H_peek_21 : decode b_H_peek 21 = .ok (.aaload, 1) := by decide +kernel
theorem d_H_peek_22 : decode b_H_peek 22 = .ok (.invokevirtual 108, 3) := by decide +kernel
theorem d_H_peek_25 : decode b_H_peek 25 = .ok (.ireturn, 1) := by decide +kernel
set_option maxHeartbeats 4000000 in
set_option maxRecDepth 100000 in
theorem c_H_peek_no (l : Launch) (D : va_G) (G : Nat → ClassId) (A : Nat → Prop) (Z : va_W) (h : Nat) (hl : Nat) (y : Nat) (rra : Nat) (od : Nat) (hd : Nat) (rsa : Nat) (so : Nat) (z : Nat) (o : Nat) (tl : Nat) (b : Nat) (mma : Nat) (vva : Nat) (wc : Int32) (hhd : hd = 0) : hq_FI l D G A y_H_peek b_H_peek 1 .int 0 [.ref h] ([(h, .inr (7, [.ref hl, .ref y, .ref rra, .int (nI od), .int (nI hd), .ref rsa, .int (nI so), .ref z, .ref o, .ref tl, .ref b, .ref mma, .ref vva, .int wc]))] ++ Z) ((-2147483648)) ([(h, .inr (7, [.ref hl, .ref y, .ref rra, .int (nI od), .int (nI hd), .ref rsa, .int (nI so), .ref z, .ref o, .ref tl, .ref b, .ref mma, .ref vva, .int wc]))] ++ Z) := by
  refine hq_bI (by decide) (Nat.le_of_ble_eq_true rfl) (fun _ _ _ => rfl) ?_
  intro p e s m args below meth c Q hx hb hml hts hown hA hK hN hret ls H locs hl hP hD hS
  have hown : s.vm.findClass "HashedLearner" = some m.cls := hown
  have hl : lv_has ls 1 [(0, .ref h)] := hl
  refine lv_aload_n hx hb d_H_peek_0 rfl (lv_at hl 0 rfl) ?_
  refine va_get (D := D) (ci := 7) (v := .int (nI hd)) (C := R_H) (T := F_H) (N := 14) hx hb hts uw_H hown hK hP 0 rfl rfl 4 (by decide) (hts _ fl_H_33) (fun _ h9 => h9) rfl d_H_peek_1 ?_
  refine lv_if_ne (tgt := 12) hx hb d_H_peek_4 rfl (fun c4 => ?_) (fun c4 => ?_)
  · -- 4 taken
    have c4 : ¬ hd = 0 := fun h => c4 ((nI_eq (a := hd) (b := 0) (by omega) (by omega)).mpr h)
    exact absurd hhd c4
  · -- 4 not taken
    have c4 : hd = 0 := (nI_eq (a := hd) (b := 0) (by omega) (by omega)).mp c4
    refine lv_ldc (v := (-2147483648)) hx hb hown (hts _ ki_H_107) d_H_peek_7 ?_
    refine lv_goto (tgt := 25) hx hb d_H_peek_9 rfl ?_
    exact hret (-2147483648) () H locs 25 ls d_H_peek_25 (by simp [c4]) hP hD hS
theorem d_H_terms_0 : decode b_H_terms 0 = .ok (.aload_n 0, 1) := by decide +kernel
theorem d_H_terms_1 : decode b_H_terms 1 = .ok (.getfield 33, 3) := by decide +kernel
theorem d_H_terms_4 : decode b_H_terms 4 = .ok (.ifCond .ne (5), 3) := by decide +kernel
theorem d_H_terms_7 : decode b_H_terms 7 = .ok (.iconst (-1), 1) := by decide +kernel
theorem d_H_terms_8 : decode b_H_terms 8 = .ok (.ireturn, 1) := by decide +kernel
theorem d_H_terms_9 : decode b_H_terms 9 = .ok (.aload_n 0, 1) := by decide +kernel
theorem d_H_terms_10 : decode b_H_terms 10 = .ok (.getfield 45, 3) := by decide +kernel
theorem d_H_terms_13 : decode b_H_terms 13 = .ok (.aload_n 0, 1) := by decide +kernel
theorem d_H_terms_14 : decode b_H_terms 14 = .ok (.getfield 25, 3) := by decide +kernel
theorem d_H_terms_17 : decode b_H_terms 17 = .ok (.aload_n 0, 1) := by decide +kernel
theorem d_H_terms_18 : decode b_H_terms 18 = .ok (.getfield 29, 3) := by decide +kernel
theorem d_H_terms_21 : decode b_H_terms 21 = .ok (.aaload, 1) := by decide +kernel
theorem d_H_terms_22 : decode b_H_terms 22 = .ok (.aload_n 0, 1) := by decide +kernel
theorem d_H_terms_23 : decode b_H_terms 23 = .ok (.getfield 19, 3) := by decide +kernel
theorem d_H_terms_26 : decode b_H_terms 26 = .ok (.invokevirtual 137, 3) := by decide +kernel
theorem d_H_terms_29 : decode b_H_terms 29 = .ok (.aload_n 0, 1) := by decide +kernel
theorem d_H_terms_30 : decode b_H_terms 30 = .ok (.getfield 45, 3) := by decide +kernel
theorem d_H_terms_33 : decode b_H_terms 33 = .ok (.getfield 141, 3) := by decide +kernel
theorem d_H_terms_36 : decode b_H_terms 36 = .ok (.ireturn, 1) := by decide +kernel
set_option maxHeartbeats 4000000 in
set_option maxRecDepth 100000 in
theorem c_H_terms_no (l : Launch) (D : va_G) (G : Nat → ClassId) (A : Nat → Prop) (Z : va_W) (h : Nat) (hl : Nat) (y : Nat) (rra : Nat) (od : Nat) (hd : Nat) (rsa : Nat) (so : Nat) (z : Nat) (o : Nat) (tl : Nat) (b : Nat) (mma : Nat) (vva : Nat) (wc : Int32) (hhd : hd = 0) : hq_FI l D G A y_H_terms b_H_terms 1 .int 0 [.ref h] ([(h, .inr (7, [.ref hl, .ref y, .ref rra, .int (nI od), .int (nI hd), .ref rsa, .int (nI so), .ref z, .ref o, .ref tl, .ref b, .ref mma, .ref vva, .int wc]))] ++ Z) ((-1)) ([(h, .inr (7, [.ref hl, .ref y, .ref rra, .int (nI od), .int (nI hd), .ref rsa, .int (nI so), .ref z, .ref o, .ref tl, .ref b, .ref mma, .ref vva, .int wc]))] ++ Z) := by
  refine hq_bI (by decide) (Nat.le_of_ble_eq_true rfl) (fun _ _ _ => rfl) ?_
  intro p e s m args below meth c Q hx hb hml hts hown hA hK hN hret ls H locs hl hP hD hS
  have hown : s.vm.findClass "HashedLearner" = some m.cls := hown
  have hl : lv_has ls 1 [(0, .ref h)] := hl
  refine lv_aload_n hx hb d_H_terms_0 rfl (lv_at hl 0 rfl) ?_
  refine va_get (D := D) (ci := 7) (v := .int (nI hd)) (C := R_H) (T := F_H) (N := 14) hx hb hts uw_H hown hK hP 0 rfl rfl 4 (by decide) (hts _ fl_H_33) (fun _ h9 => h9) rfl d_H_terms_1 ?_
  refine lv_if_ne (tgt := 9) hx hb d_H_terms_4 rfl (fun c4 => ?_) (fun c4 => ?_)
  · -- 4 taken
    have c4 : ¬ hd = 0 := fun h => c4 ((nI_eq (a := hd) (b := 0) (by omega) (by omega)).mpr h)
    exact absurd hhd c4
  · -- 4 not taken
    have c4 : hd = 0 := (nI_eq (a := hd) (b := 0) (by omega) (by omega)).mp c4
    refine lv_iconst (v := (-1)) hx hb d_H_terms_7 (by decide) ?_
    exact hret (-1) () H locs 8 ls d_H_terms_8 (by simp [c4]) hP hD hS
