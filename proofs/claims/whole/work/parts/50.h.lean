theorem d_H_report_0 : decode b_H_report 0 = .ok (.iload_n 1, 1) := by decide +kernel
theorem d_H_report_1 : decode b_H_report 1 = .ok (.iconst (-1), 1) := by decide +kernel
theorem d_H_report_2 : decode b_H_report 2 = .ok (.if_icmp .ne (12), 3) := by decide +kernel
theorem d_H_report_5 : decode b_H_report 5 = .ok (.aload_n 0, 1) := by decide +kernel
theorem d_H_report_6 : decode b_H_report 6 = .ok (.getfield 52, 3) := by decide +kernel
theorem d_H_report_9 : decode b_H_report 9 = .ok (.getfield 180, 3) := by decide +kernel
theorem d_H_report_12 : decode b_H_report 12 = .ok (.i2l, 1) := by decide +kernel
theorem d_H_report_13 : decode b_H_report 13 = .ok (.lreturn, 1) := by decide +kernel
theorem d_H_report_14 : decode b_H_report 14 = .ok (.iload_n 1, 1) := by decide +kernel
theorem d_H_report_15 : decode b_H_report 15 = .ok (.ifCond .lt (26), 3) := by decide +kernel
theorem d_H_report_18 : decode b_H_report 18 = .ok (.iload_n 1, 1) := by decide +kernel
theorem d_H_report_19 : decode b_H_report 19 = .ok (.aload_n 0, 1) := by decide +kernel
theorem d_H_report_20 : decode b_H_report 20 = .ok (.getfield 52, 3) := by decide +kernel
theorem d_H_report_23 : decode b_H_report 23 = .ok (.getfield 180, 3) := by decide +kernel
theorem d_H_report_26 : decode b_H_report 26 = .ok (.if_icmp .ge (15), 3) := by decide +kernel
theorem d_H_report_29 : decode b_H_report 29 = .ok (.aload_n 0, 1) := by decide +kernel
theorem d_H_report_30 : decode b_H_report 30 = .ok (.getfield 52, 3) := by decide +kernel
theorem d_H_report_33 : decode b_H_report 33 = .ok (.getfield 183, 3) := by decide +kernel
theorem d_H_report_36 : decode b_H_report 36 = .ok (.iload_n 1, 1) := by decide +kernel
theorem d_H_report_37 : decode b_H_report 37 = .ok (.laload, 1) := by decide +kernel
theorem d_H_report_38 : decode b_H_report 38 = .ok (.goto (6), 3) := by decide +kernel
theorem d_H_report_41 : decode b_H_report 41 = .ok (.ldc2_w 186, 3) := by decide +kernel
theorem d_H_report_44 : decode b_H_report 44 = .ok (.lreturn, 1) := by decide +kernel
set_option maxHeartbeats 4000000 in
set_option maxRecDepth 100000 in
theorem c_H_report (l : Launch) (D : va_G) (G : Nat → ClassId) (A : Nat → Prop) (Z : va_W) (h : Nat) (fs : List Value) (tl : Nat) (ra : Nat) (rp : Nat → Int64) (rc : Nat) (tt : Int64) (es : Int32) (cs : Int64) (is : Int64) (x : Int32) (hf9 : fs[9]? = some (.ref tl)) (hrc : rc ≤ 31) : hq_FL l D G A y_H_report b_H_report 2 0 [.ref h, .int x] ([(h, .inr (7, fs)), (tl, .inr (5, [.ref ra, .int (nI rc), .long tt, .int es, .long cs, .long is])), (ra, .inl (G 1, 31, .inr (.inl rp)))] ++ Z) (hq_rep1 rp rc x) ([(h, .inr (7, fs)), (tl, .inr (5, [.ref ra, .int (nI rc), .long tt, .int es, .long cs, .long is])), (ra, .inl (G 1, 31, .inr (.inl rp)))] ++ Z) := by
  refine hq_bL (by decide) (Nat.le_of_ble_eq_true rfl) ?_
  intro p e s m args below meth c Q hx hb hml hts hown hA hK hN hret ls H locs hl hP hD hS
  have hown : s.vm.findClass "HashedLearner" = some m.cls := hown
  have hl : lv_has ls 2 [(0, .ref h), (1, .int x)] := hl
  refine lv_iload_n hx hb d_H_report_0 rfl (lv_at hl 1 rfl) ?_
  refine lv_iconst (v := (-1)) hx hb d_H_report_1 (by decide) ?_
  refine lv_icmp_ne (tgt := 14) hx hb d_H_report_2 rfl (fun c2 => ?_) (fun c2 => ?_)
  · -- 2 taken
    have c2 : ¬ x = (-1) := c2
    refine lv_iload_n hx hb d_H_report_14 rfl (lv_at hl 1 rfl) ?_
    refine lv_if_lt (tgt := 41) hx hb d_H_report_15 rfl (fun c15 => ?_) (fun c15 => ?_)
    · -- 15 taken
      have c15 : x < 0 := c15
      refine lv_ldc2 (v := (-1)) hx hb hown (hts _ kl_H_186) d_H_report_41 ?_
      exact hret (-1) () H locs 44 ls d_H_report_44 (by rw [hq_rep1, if_neg c2, hq_get_neg c15]) hP hD hS
    · -- 15 not taken
      have c15 : ¬ x < 0 := c15
      refine lv_iload_n hx hb d_H_report_18 rfl (lv_at hl 1 rfl) ?_
      refine lv_aload_n hx hb d_H_report_19 rfl (lv_at hl 0 rfl) ?_
      refine va_get (D := D) (ci := 7) (v := .ref tl) (C := R_H) (T := F_H) (N := 14) hx hb hts uw_H hown hK hP 0 rfl rfl 9 (by decide) (hts _ fl_H_52) (fun _ h9 => h9) hf9 d_H_report_20 ?_
      refine va_get (D := D) (ci := 5) (v := .int (nI rc)) (C := R_Tally) (T := F_Tally) (N := 6) hx hb hts uw_Tally hown hK hP 1 rfl rfl 1 (by decide) (hts _ fl_H_180) (fun _ h9 => h9) rfl d_H_report_23 ?_
      refine lv_icmp_ge (tgt := 41) hx hb d_H_report_26 rfl (fun c26 => ?_) (fun c26 => ?_)
      · -- 26 taken
        have c26 : (nI rc) ≤ x := c26
        refine lv_ldc2 (v := (-1)) hx hb hown (hts _ kl_H_186) d_H_report_41 ?_
        exact hret (-1) () H locs 44 ls d_H_report_44 (by rw [hq_rep1, if_neg c2, hq_get_big c26]) hP hD hS
      · -- 26 not taken
        have c26 : ¬ (nI rc) ≤ x := c26
        obtain ⟨j, hj, rfl⟩ := hq_ix c15 c26 (by omega)
        · skip
          refine lv_aload_n hx hb d_H_report_29 rfl (lv_at hl 0 rfl) ?_
          refine va_get (D := D) (ci := 7) (v := .ref tl) (C := R_H) (T := F_H) (N := 14) hx hb hts uw_H hown hK hP 0 rfl rfl 9 (by decide) (hts _ fl_H_52) (fun _ h9 => h9) hf9 d_H_report_30 ?_
          refine va_get (D := D) (ci := 5) (v := .ref ra) (C := R_Tally) (T := F_Tally) (N := 6) hx hb hts uw_Tally hown hK hP 1 rfl rfl 0 (by decide) (hts _ fl_H_183) (fun _ h9 => h9) rfl d_H_report_33 ?_
          refine lv_iload_n hx hb d_H_report_36 rfl (lv_at hl 1 rfl) ?_
          refine hq_lald (j := j) hx hb hK hP 2 rfl (by omega) (by omega) d_H_report_37 ?_
          refine lv_goto (tgt := 44) hx hb d_H_report_38 rfl ?_
          exact hret (rp j) () H locs 44 ls d_H_report_44 (by rw [hq_rep1, if_neg c2, hq_get_in hj (by omega)]) hP hD hS
  · -- 2 not taken
    have c2 : x = (-1) := c2
    refine lv_aload_n hx hb d_H_report_5 rfl (lv_at hl 0 rfl) ?_
    refine va_get (D := D) (ci := 7) (v := .ref tl) (C := R_H) (T := F_H) (N := 14) hx hb hts uw_H hown hK hP 0 rfl rfl 9 (by decide) (hts _ fl_H_52) (fun _ h9 => h9) hf9 d_H_report_6 ?_
    refine va_get (D := D) (ci := 5) (v := .int (nI rc)) (C := R_Tally) (T := F_Tally) (N := 6) hx hb hts uw_Tally hown hK hP 1 rfl rfl 1 (by decide) (hts _ fl_H_180) (fun _ h9 => h9) rfl d_H_report_9 ?_
    refine lv_i2l (v := Int32.toInt64 (nI rc)) hx hb d_H_report_12 rfl ?_
    exact hret (Int32.toInt64 (nI rc)) () H locs 13 ls d_H_report_13 (by rw [hq_rep1, if_pos c2]) hP hD hS
theorem d_H_write_0 : decode b_H_write 0 = .ok (.aload_n 0, 1) := by decide +kernel
theorem d_H_write_1 : decode b_H_write 1 = .ok (.getfield 12, 3) := by decide +kernel
theorem d_H_write_4 : decode b_H_write 4 = .ok (.iload_n 1, 1) := by decide +kernel
theorem d_H_write_5 : decode b_H_write 5 = .ok (.invokevirtual 86, 3) := by decide +kernel
theorem d_H_write_8 : decode b_H_write 8 = .ok (.ireturn, 1) := by decide +kernel
set_option maxHeartbeats 4000000 in
set_option maxRecDepth 100000 in
theorem c_H_write (l : Launch) (D : va_G) (G : Nat → ClassId) (A : Nat → Prop) (Z : va_W) (h : Nat) (fs : List Value) (hl : Nat) (ta : Nat) (t : Nat → Int32) (len : Nat) (ne : Int32) (pn : Int32) (lt : Int32) (sd : Int32) (fc : Int32) (ch : Int32) (hf0 : fs[0]? = some (.ref hl)) (hlen : len ≤ 100) : hq_FI l D G A y_H_write b_H_write 2 .boolean 2 [.ref h, .int ch] ([(h, .inr (7, fs)), (hl, .inr (2, [.ref ta, .int (nI len), .int ne, .int pn, .int lt, .int sd, .int fc])), (ta, .inl (G 2, 100, .inl t))] ++ Z) (hq_z (f_Line_append t len ch)) ([(h, .inr (7, fs)), (hl, .inr (2, [.ref ta, .int (nI (f_Line_append_o1 t len ch)), .int ne, .int pn, .int lt, .int sd, .int fc])), (ta, .inl (G 2, 100, .inl (f_Line_append_o2 t len ch)))] ++ Z) := by
  refine hq_bI (by decide) (Nat.le_of_ble_eq_true rfl) (fun r u h => by rw [h]; exact hq_znar _) ?_
  intro p e s m args below meth c Q hx hb hml hts hown hA hK hN hret ls H locs hl hP hD hS
  have hown : s.vm.findClass "HashedLearner" = some m.cls := hown
  have hl : lv_has ls 2 [(0, .ref h), (1, .int ch)] := hl
  refine lv_aload_n hx hb d_H_write_0 rfl (lv_at hl 0 rfl) ?_
  refine va_get (D := D) (ci := 7) (v := .ref hl) (C := R_H) (T := F_H) (N := 14) hx hb hts uw_H hown hK hP 0 rfl rfl 0 (by decide) (hts _ fl_H_12) (fun _ h9 => h9) hf0 d_H_write_1 ?_
  refine lv_iload_n hx hb d_H_write_4 rfl (lv_at hl 1 rfl) ?_
  have hPc : va_P D hq_cl ([(hl, .inr (2, [.ref ta, .int (nI len), .int ne, .int pn, .int lt, .int sd, .int fc])), (ta, .inl (G 2, 100, .inl t))] ++ ([(h, .inr (7, fs))] ++ Z)) H := va_P.part (cx := [(hl, .inr (2, [.ref ta, .int (nI len), .int ne, .int pn, .int lt, .int sd, .int fc])), (ta, .inl (G 2, 100, .inl t)), (h, .inr (7, fs))]) hP [1, 2, 0] rfl
  have hDc : va_D A ([(hl, .inr (2, [.ref ta, .int (nI len), .int ne, .int pn, .int lt, .int sd, .int fc])), (ta, .inl (G 2, 100, .inl t))] ++ ([(h, .inr (7, fs))] ++ Z)) := va_D.part (cx := [(hl, .inr (2, [.ref ta, .int (nI len), .int ne, .int pn, .int lt, .int sd, .int fc])), (ta, .inl (G 2, 100, .inl t)), (h, .inr (7, fs))]) hD [1, 2, 0] (by decide) rfl
  refine hq_iF (hq_rV (As := [.int ch]) (rest := []) hx hb hml hown hts (c_Line_append l D G A ([(h, .inr (7, fs))] ++ Z) hl ta t len ne pn lt sd fc ch (by first | assumption | omega)) yy_Line_append lk_H_86 hA hK hN hS hPc hDc 0 2 rfl rfl rfl hl.1 rfl (Nat.le_of_ble_eq_true rfl) d_H_write_5 ⟨by decide, by decide⟩ ⟨by decide, by decide⟩) hS (fun H locs hP hD hS => ?_)
  have hP : va_P D hq_cl ([(hl, .inr (2, [.ref ta, .int (nI (f_Line_append_o1 t len ch)), .int ne, .int pn, .int lt, .int sd, .int fc])), (ta, .inl (G 2, 100, .inl (f_Line_append_o2 t len ch))), (h, .inr (7, fs))] ++ Z) H := hP
  have hD : va_D A ([(hl, .inr (2, [.ref ta, .int (nI (f_Line_append_o1 t len ch)), .int ne, .int pn, .int lt, .int sd, .int fc])), (ta, .inl (G 2, 100, .inl (f_Line_append_o2 t len ch))), (h, .inr (7, fs))] ++ Z) := hD
  have hP := va_P.part (cx := [(h, .inr (7, fs)), (hl, .inr (2, [.ref ta, .int (nI (f_Line_append_o1 t len ch)), .int ne, .int pn, .int lt, .int sd, .int fc])), (ta, .inl (G 2, 100, .inl (f_Line_append_o2 t len ch)))]) hP [2, 0, 1] rfl
  have hD := va_D.part (cx := [(h, .inr (7, fs)), (hl, .inr (2, [.ref ta, .int (nI (f_Line_append_o1 t len ch)), .int ne, .int pn, .int lt, .int sd, .int fc])), (ta, .inl (G 2, 100, .inl (f_Line_append_o2 t len ch)))]) hD [2, 0, 1] (by decide) rfl
  exact hret (hq_z (f_Line_append t len ch)) () H locs 8 ls d_H_write_8 (rfl) hP hD hS
theorem d_H_cross_0 : decode b_H_cross 0 = .ok (.aload_n 0, 1) := by decide +kernel
theorem d_H_cross_1 : decode b_H_cross 1 = .ok (.getfield 19, 3) := by decide +kernel
theorem d_H_cross_4 : decode b_H_cross 4 = .ok (.iload_n 1, 1) := by decide +kernel
theorem d_H_cross_5 : decode b_H_cross 5 = .ok (.iload_n 2, 1) := by decide +kernel
theorem d_H_cross_6 : decode b_H_cross 6 = .ok (.invokevirtual 90, 3) := by decide +kernel
theorem d_H_cross_9 : decode b_H_cross 9 = .ok (.ireturn, 1) := by decide +kernel
set_option maxHeartbeats 4000000 in
set_option maxRecDepth 100000 in
theorem c_H_cross (l : Launch) (D : va_G) (G : Nat → ClassId) (A : Nat → Prop) (Z : va_W) (h : Nat) (fs : List Value) (y : Nat) (ya : Nat) (yb : Nat) (cl : Nat → Int32) (cr : Nat → Int32) (nc : Nat) (cd : Bool) (c1 : Int32) (c2 : Int32) (hf1 : fs[1]? = some (.ref y)) (hk : nc ≤ 3) : hq_FI l D G A y_H_cross b_H_cross 3 .boolean 3 [.ref h, .int c1, .int c2] ([(h, .inr (7, fs)), (y, .inr (0, [.ref ya, .ref yb, .int (nI nc), .int (hq_z cd)])), (ya, .inl (G 2, 3, .inl cl)), (yb, .inl (G 2, 3, .inl cr))] ++ Z) (hq_z (f_Crossings_add cl cr nc cd c1 c2)) ([(h, .inr (7, fs)), (y, .inr (0, [.ref ya, .ref yb, .int (nI (f_Crossings_add_o1 cl cr nc cd c1 c2)), .int (hq_z cd)])), (ya, .inl (G 2, 3, .inl (f_Crossings_add_o2 cl cr nc cd c1 c2))), (yb, .inl (G 2, 3, .inl (f_Crossings_add_o3 cl cr nc cd c1 c2)))] ++ Z) := by
  refine hq_bI (by decide) (Nat.le_of_ble_eq_true rfl) (fun r u h => by rw [h]; exact hq_znar _) ?_
  intro p e s m args below meth c Q hx hb hml hts hown hA hK hN hret ls H locs hl hP hD hS
  have hown : s.vm.findClass "HashedLearner" = some m.cls := hown
  have hl : lv_has ls 3 [(0, .ref h), (1, .int c1), (2, .int c2)] := hl
  refine lv_aload_n hx hb d_H_cross_0 rfl (lv_at hl 0 rfl) ?_
  refine va_get (D := D) (ci := 7) (v := .ref y) (C := R_H) (T := F_H) (N := 14) hx hb hts uw_H hown hK hP 0 rfl rfl 1 (by decide) (hts _ fl_H_19) (fun _ h9 => h9) hf1 d_H_cross_1 ?_
  refine lv_iload_n hx hb d_H_cross_4 rfl (lv_at hl 1 rfl) ?_
  refine lv_iload_n hx hb d_H_cross_5 rfl (lv_at hl 2 rfl) ?_
  have hPc : va_P D hq_cl ([(y, .inr (0, [.ref ya, .ref yb, .int (nI nc), .int (hq_z cd)])), (ya, .inl (G 2, 3, .inl cl)), (yb, .inl (G 2, 3, .inl cr))] ++ ([(h, .inr (7, fs))] ++ Z)) H := va_P.part (cx := [(y, .inr (0, [.ref ya, .ref yb, .int (nI nc), .int (hq_z cd)])), (ya, .inl (G 2, 3, .inl cl)), (yb, .inl (G 2, 3, .inl cr)), (h, .inr (7, fs))]) hP [1, 2, 3, 0] rfl
  have hDc : va_D A ([(y, .inr (0, [.ref ya, .ref yb, .int (nI nc), .int (hq_z cd)])), (ya, .inl (G 2, 3, .inl cl)), (yb, .inl (G 2, 3, .inl cr))] ++ ([(h, .inr (7, fs))] ++ Z)) := va_D.part (cx := [(y, .inr (0, [.ref ya, .ref yb, .int (nI nc), .int (hq_z cd)])), (ya, .inl (G 2, 3, .inl cl)), (yb, .inl (G 2, 3, .inl cr)), (h, .inr (7, fs))]) hD [1, 2, 3, 0] (by decide) rfl
  refine hq_iF (hq_rV (As := [.int c1, .int c2]) (rest := []) hx hb hml hown hts (c_Crossings_add l D G A ([(h, .inr (7, fs))] ++ Z) y ya yb cl cr nc cd c1 c2 (by first | assumption | omega)) yy_Crossings_add lk_H_90 hA hK hN hS hPc hDc 0 0 rfl rfl rfl hl.1 rfl (Nat.le_of_ble_eq_true rfl) d_H_cross_6 ⟨by decide, by decide⟩ ⟨by decide, by decide⟩) hS (fun H locs hP hD hS => ?_)
  have hP : va_P D hq_cl ([(y, .inr (0, [.ref ya, .ref yb, .int (nI (f_Crossings_add_o1 cl cr nc cd c1 c2)), .int (hq_z cd)])), (ya, .inl (G 2, 3, .inl (f_Crossings_add_o2 cl cr nc cd c1 c2))), (yb, .inl (G 2, 3, .inl (f_Crossings_add_o3 cl cr nc cd c1 c2))), (h, .inr (7, fs))] ++ Z) H := hP
  have hD : va_D A ([(y, .inr (0, [.ref ya, .ref yb, .int (nI (f_Crossings_add_o1 cl cr nc cd c1 c2)), .int (hq_z cd)])), (ya, .inl (G 2, 3, .inl (f_Crossings_add_o2 cl cr nc cd c1 c2))), (yb, .inl (G 2, 3, .inl (f_Crossings_add_o3 cl cr nc cd c1 c2))), (h, .inr (7, fs))] ++ Z) := hD
  have hP := va_P.part (cx := [(h, .inr (7, fs)), (y, .inr (0, [.ref ya, .ref yb, .int (nI (f_Crossings_add_o1 cl cr nc cd c1 c2)), .int (hq_z cd)])), (ya, .inl (G 2, 3, .inl (f_Crossings_add_o2 cl cr nc cd c1 c2))), (yb, .inl (G 2, 3, .inl (f_Crossings_add_o3 cl cr nc cd c1 c2)))]) hP [3, 0, 1, 2] rfl
  have hD := va_D.part (cx := [(h, .inr (7, fs)), (y, .inr (0, [.ref ya, .ref yb, .int (nI (f_Crossings_add_o1 cl cr nc cd c1 c2)), .int (hq_z cd)])), (ya, .inl (G 2, 3, .inl (f_Crossings_add_o2 cl cr nc cd c1 c2))), (yb, .inl (G 2, 3, .inl (f_Crossings_add_o3 cl cr nc cd c1 c2)))]) hD [3, 0, 1, 2] (by decide) rfl
  exact hret (hq_z (f_Crossings_add cl cr nc cd c1 c2)) () H locs 9 ls d_H_cross_9 (rfl) hP hD hS
