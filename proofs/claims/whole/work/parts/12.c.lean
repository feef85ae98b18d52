theorem d_Line_append_0 : decode b_Line_append 0 = .ok (.iload_n 1, 1) := by decide +kernel
theorem d_Line_append_1 : decode b_Line_append 1 = .ok (.invokestatic 35, 3) := by decide +kernel
theorem d_Line_append_4 : decode b_Line_append 4 = .ok (.ifCond .eq (12), 3) := by decide +kernel
theorem d_Line_append_7 : decode b_Line_append 7 = .ok (.aload_n 0, 1) := by decide +kernel
theorem d_Line_append_8 : decode b_Line_append 8 = .ok (.getfield 15, 3) := by decide +kernel
theorem d_Line_append_11 : decode b_Line_append 11 = .ok (.bipush (100), 2) := by decide +kernel
theorem d_Line_append_13 : decode b_Line_append 13 = .ok (.if_icmp .lt (5), 3) := by decide +kernel
theorem d_Line_append_16 : decode b_Line_append 16 = .ok (.iconst 0, 1) := by decide +kernel
theorem d_Line_append_17 : decode b_Line_append 17 = .ok (.ireturn, 1) := by decide +kernel
theorem d_Line_append_18 : decode b_Line_append 18 = .ok (.aload_n 0, 1) := by decide +kernel
theorem d_Line_append_19 : decode b_Line_append 19 = .ok (.getfield 9, 3) := by decide +kernel
theorem d_Line_append_22 : decode b_Line_append 22 = .ok (.aload_n 0, 1) := by decide +kernel
theorem d_Line_append_23 : decode b_Line_append 23 = .ok (.getfield 15, 3) := by decide +kernel
theorem d_Line_append_26 : decode b_Line_append 26 = .ok (.iload_n 1, 1) := by decide +kernel
theorem d_Line_append_27 : decode b_Line_append 27 = .ok (.castore, 1) := by decide +kernel
theorem d_Line_append_28 : decode b_Line_append 28 = .ok (.aload_n 0, 1) := by decide +kernel
theorem d_Line_append_29 : decode b_Line_append 29 = .ok (.dup, 1) := by decide +kernel
theorem d_Line_append_30 : decode b_Line_append 30 = .ok (.getfield 15, 3) := by decide +kernel
theorem d_Line_append_33 : decode b_Line_append 33 = .ok (.iconst 1, 1) := by decide +kernel
theorem d_Line_append_34 : decode b_Line_append 34 = .ok (.iadd, 1) := by decide +kernel
theorem d_Line_append_35 : decode b_Line_append 35 = .ok (.putfield 15, 3) := by decide +kernel
theorem d_Line_append_38 : decode b_Line_append 38 = .ok (.iconst 1, 1) := by decide +kernel
theorem d_Line_append_39 : decode b_Line_append 39 = .ok (.ireturn, 1) := by decide +kernel
def f_Line_append (t : Nat → Int32) (len : Nat) (ch : Int32) : Bool := if (f_H_isTypeable ch) = true then if len < 100 then true else false else false
def f_Line_append_o1 (t : Nat → Int32) (len : Nat) (ch : Int32) : Nat := if (f_H_isTypeable ch) = true then if len < 100 then len + 1 else len else len
def f_Line_append_o2 (t : Nat → Int32) (len : Nat) (ch : Int32) : Nat → Int32 := if (f_H_isTypeable ch) = true then if len < 100 then upd t len ch else t else t
set_option maxHeartbeats 4000000 in
set_option maxRecDepth 100000 in
theorem c_Line_append (l : Launch) (D : va_G) (G : Nat → ClassId) (A : Nat → Prop) (Z : va_W) (h : Nat) (ta : Nat) (t : Nat → Int32) (len : Nat) (ne : Int32) (pn : Int32) (lt : Int32) (sd : Int32) (fc : Int32) (ch : Int32) (hlen : len ≤ 100) : hq_FI l D G A y_Line_append b_Line_append 2 .boolean 1 [.ref h, .int ch] ([hq_o2 h ta (nI len) ne pn lt sd fc, hq_ai ta (G 2) 100 t] ++ Z) (hq_z (f_Line_append t len ch)) ([hq_o2 h ta (nI (f_Line_append_o1 t len ch)) ne pn lt sd fc, hq_ai ta (G 2) 100 (f_Line_append_o2 t len ch)] ++ Z) := by
  refine hq_bI (by decide) (Nat.le_of_ble_eq_true rfl) (fun r u h => by rw [h]; exact hq_znar _) ?_
  intro p e s m args below meth c Q hx hb hml hts hown hA hK hN hret ls H locs hl hP hD hS
  have hown : s.vm.findClass "HashedLearner$Line" = some m.cls := hown
  have hl : lv_has ls 2 [(0, .ref h), (1, .int ch)] := hl
  refine lv_iload_n hx hb d_Line_append_0 rfl (lv_at hl 1 rfl) ?_
  have hPc : va_P D hq_cl ([] ++ ([hq_o2 h ta (nI len) ne pn lt sd fc, hq_ai ta (G 2) 100 t] ++ Z)) H := hP
  have hDc : va_D A ([] ++ ([hq_o2 h ta (nI len) ne pn lt sd fc, hq_ai ta (G 2) 100 t] ++ Z)) := hD
  refine hq_iF (hq_rSN (As := [.int ch]) (rest := []) hx hb hml hown hts (c_H_isTypeable l D G A ([hq_o2 h ta (nI len) ne pn lt sd fc, hq_ai ta (G 2) 100 t] ++ Z) ch) yy_H_isTypeable lk_Line_35 hA hK hN hS hPc hDc rfl hl.1 rfl (Nat.le_of_ble_eq_true rfl) d_Line_append_1 ⟨by decide, by decide⟩ ⟨by decide, by decide⟩) hS (fun H locs hP hD hS => ?_)
  have hP : va_P D hq_cl ([hq_o2 h ta (nI len) ne pn lt sd fc, hq_ai ta (G 2) 100 t] ++ Z) H := hP
  have hD : va_D A ([hq_o2 h ta (nI len) ne pn lt sd fc, hq_ai ta (G 2) 100 t] ++ Z) := hD
  refine lv_if_eq (tgt := 16) hx hb d_Line_append_4 rfl (fun c4 => ?_) (fun c4 => ?_)
  · -- 4 taken
    have c4 : ¬ (f_H_isTypeable ch) = true := by rw [hq_z0.mp c4]; decide
    refine lv_iconst (v := 0) hx hb d_Line_append_16 (by decide) ?_
    have hP : va_P D hq_cl ([hq_o2 h ta (nI (f_Line_append_o1 t len ch)) ne pn lt sd fc, hq_ai ta (G 2) 100 (f_Line_append_o2 t len ch)] ++ Z) H := by rw [show nI (f_Line_append_o1 t len ch) = nI len by (rw [f_Line_append_o1, if_neg c4] <;> rfl), show f_Line_append_o2 t len ch = t by (rw [f_Line_append_o2, if_neg c4] <;> rfl)]; exact hP
    have hD : va_D A ([hq_o2 h ta (nI (f_Line_append_o1 t len ch)) ne pn lt sd fc, hq_ai ta (G 2) 100 (f_Line_append_o2 t len ch)] ++ Z) := by rw [show nI (f_Line_append_o1 t len ch) = nI len by (rw [f_Line_append_o1, if_neg c4] <;> rfl), show f_Line_append_o2 t len ch = t by (rw [f_Line_append_o2, if_neg c4] <;> rfl)]; exact hD
    exact hret 0 () H locs 17 ls d_Line_append_17 (by rw [f_Line_append, if_neg c4] <;> rfl) hP hD hS
  · -- 4 not taken
    have c4 : (f_H_isTypeable ch) = true := hq_zn.mp c4
    refine lv_aload_n hx hb d_Line_append_7 rfl (lv_at hl 0 rfl) ?_
    refine va_get (D := D) (ci := 2) (v := .int (nI len)) (C := R_Line) (T := F_Line) (N := 7) hx hb hts uw_Line hown hK hP 0 rfl rfl 1 (by decide) (hts _ fl_Line_15) (fun _ h9 => h9) rfl d_Line_append_8 ?_
    refine lv_bipush (v := 100) hx hb d_Line_append_11 (by decide) ?_
    refine lv_icmp_lt (tgt := 18) hx hb d_Line_append_13 rfl (fun c13 => ?_) (fun c13 => ?_)
    · -- 13 taken
      have c13 : len < 100 := (nI_ltI (a := len) (b := 100) (by omega) (by omega)).mp c13
      refine lv_aload_n hx hb d_Line_append_18 rfl (lv_at hl 0 rfl) ?_
      refine va_get (D := D) (ci := 2) (v := .ref ta) (C := R_Line) (T := F_Line) (N := 7) hx hb hts uw_Line hown hK hP 0 rfl rfl 0 (by decide) (hts _ fl_Line_9) (fun _ h9 => h9) rfl d_Line_append_19 ?_
      refine lv_aload_n hx hb d_Line_append_22 rfl (lv_at hl 0 rfl) ?_
      refine va_get (D := D) (ci := 2) (v := .int (nI len)) (C := R_Line) (T := F_Line) (N := 7) hx hb hts uw_Line hown hK hP 0 rfl rfl 1 (by decide) (hts _ fl_Line_15) (fun _ h9 => h9) rfl d_Line_append_23 ?_
      refine lv_iload_n hx hb d_Line_append_26 rfl (lv_at hl 1 rfl) ?_
      refine hq_cast (j := len) hx hb hK hP hD hS 1 rfl (by omega) (by omega) (hq_ch_vp (hq_typ c4)) d_Line_append_27 (fun H locs hP hD hS => ?_)
      have hP : va_P D hq_cl ([hq_o2 h ta (nI len) ne pn lt sd fc, hq_ai ta (G 2) 100 (upd t len ch)] ++ Z) H := hP
      have hD : va_D A ([hq_o2 h ta (nI len) ne pn lt sd fc, hq_ai ta (G 2) 100 (upd t len ch)] ++ Z) := hD
      refine lv_aload_n hx hb d_Line_append_28 rfl (lv_at hl 0 rfl) ?_
      refine lv_dup hx hb d_Line_append_29 rfl ?_
      refine va_get (D := D) (ci := 2) (v := .int (nI len)) (C := R_Line) (T := F_Line) (N := 7) hx hb hts uw_Line hown hK hP 0 rfl rfl 1 (by decide) (hts _ fl_Line_15) (fun _ h9 => h9) rfl d_Line_append_30 ?_
      refine lv_iconst (v := 1) hx hb d_Line_append_33 (by decide) ?_
      refine lv_iadd hx hb d_Line_append_34 ?_
      refine hq_topi (x' := nI (len + 1)) (nI_add len 1) ?_
      refine va_put (D := D) (ci := 2) (v := .int (nI (len + 1))) (ty := .int) (C := R_Line) (T := F_Line) (N := 7) hx hb hts uw_Line t_Line t_Line_ok n_Line hown hK hP hD hS 0 rfl rfl 1 (by decide) (hts _ fl_Line_15) (fun _ h9 => h9) rfl (by decide +kernel) (rfl) (rfl) (Nat.le_of_ble_eq_true rfl) d_Line_append_35 (fun H locs hP hD hS => ?_)
      have hP : va_P D hq_cl ([hq_o2 h ta (nI (len + 1)) ne pn lt sd fc, hq_ai ta (G 2) 100 (upd t len ch)] ++ Z) H := hP
      have hD : va_D A ([hq_o2 h ta (nI (len + 1)) ne pn lt sd fc, hq_ai ta (G 2) 100 (upd t len ch)] ++ Z) := hD
      refine lv_iconst (v := 1) hx hb d_Line_append_38 (by decide) ?_
      have hP : va_P D hq_cl ([hq_o2 h ta (nI (f_Line_append_o1 t len ch)) ne pn lt sd fc, hq_ai ta (G 2) 100 (f_Line_append_o2 t len ch)] ++ Z) H := by rw [show nI (f_Line_append_o1 t len ch) = nI (len + 1) by (rw [f_Line_append_o1, if_pos c4, if_pos c13] <;> rfl), show f_Line_append_o2 t len ch = upd t len ch by (rw [f_Line_append_o2, if_pos c4, if_pos c13] <;> rfl)]; exact hP
      have hD : va_D A ([hq_o2 h ta (nI (f_Line_append_o1 t len ch)) ne pn lt sd fc, hq_ai ta (G 2) 100 (f_Line_append_o2 t len ch)] ++ Z) := by rw [show nI (f_Line_append_o1 t len ch) = nI (len + 1) by (rw [f_Line_append_o1, if_pos c4, if_pos c13] <;> rfl), show f_Line_append_o2 t len ch = upd t len ch by (rw [f_Line_append_o2, if_pos c4, if_pos c13] <;> rfl)]; exact hD
      exact hret 1 () H locs 39 ls d_Line_append_39 (by rw [f_Line_append, if_pos c4, if_pos c13] <;> rfl) hP hD hS
    · -- 13 not taken
      have c13 : ¬ len < 100 := fun h => c13 ((nI_ltI (a := len) (b := 100) (by omega) (by omega)).mpr h)
      refine lv_iconst (v := 0) hx hb d_Line_append_16 (by decide) ?_
      have hP : va_P D hq_cl ([hq_o2 h ta (nI (f_Line_append_o1 t len ch)) ne pn lt sd fc, hq_ai ta (G 2) 100 (f_Line_append_o2 t len ch)] ++ Z) H := by rw [show nI (f_Line_append_o1 t len ch) = nI len by (rw [f_Line_append_o1, if_pos c4, if_neg c13] <;> rfl), show f_Line_append_o2 t len ch = t by (rw [f_Line_append_o2, if_pos c4, if_neg c13] <;> rfl)]; exact hP
      have hD : va_D A ([hq_o2 h ta (nI (f_Line_append_o1 t len ch)) ne pn lt sd fc, hq_ai ta (G 2) 100 (f_Line_append_o2 t len ch)] ++ Z) := by rw [show nI (f_Line_append_o1 t len ch) = nI len by (rw [f_Line_append_o1, if_pos c4, if_neg c13] <;> rfl), show f_Line_append_o2 t len ch = t by (rw [f_Line_append_o2, if_pos c4, if_neg c13] <;> rfl)]; exact hD
      exact hret 0 () H locs 17 ls d_Line_append_17 (by rw [f_Line_append, if_pos c4, if_neg c13] <;> rfl) hP hD hS
theorem d_Example_addFeature_0 : decode b_Example_addFeature 0 = .ok (.aload_n 0, 1) := by decide +kernel
theorem d_Example_addFeature_1 : decode b_Example_addFeature 1 = .ok (.getfield 22, 3) := by decide +kernel
theorem d_Example_addFeature_4 : decode b_Example_addFeature 4 = .ok (.bipush (12), 2) := by decide +kernel
theorem d_Example_addFeature_6 : decode b_Example_addFeature 6 = .ok (.if_icmp .lt (5), 3) := by decide +kernel
theorem d_Example_addFeature_9 : decode b_Example_addFeature 9 = .ok (.iconst 0, 1) := by decide +kernel
theorem d_Example_addFeature_10 : decode b_Example_addFeature 10 = .ok (.ireturn, 1) := by decide +kernel
theorem d_Example_addFeature_11 : decode b_Example_addFeature 11 = .ok (.aload_n 0, 1) := by decide +kernel
theorem d_Example_addFeature_12 : decode b_Example_addFeature 12 = .ok (.getfield 18, 3) := by decide +kernel
theorem d_Example_addFeature_15 : decode b_Example_addFeature 15 = .ok (.aload_n 0, 1) := by decide +kernel
theorem d_Example_addFeature_16 : decode b_Example_addFeature 16 = .ok (.getfield 22, 3) := by decide +kernel
theorem d_Example_addFeature_19 : decode b_Example_addFeature 19 = .ok (.iload_n 1, 1) := by decide +kernel
theorem d_Example_addFeature_20 : decode b_Example_addFeature 20 = .ok (.castore, 1) := by decide +kernel
theorem d_Example_addFeature_21 : decode b_Example_addFeature 21 = .ok (.aload_n 0, 1) := by decide +kernel
theorem d_Example_addFeature_22 : decode b_Example_addFeature 22 = .ok (.getfield 9, 3) := by decide +kernel
theorem d_Example_addFeature_25 : decode b_Example_addFeature 25 = .ok (.aload_n 0, 1) := by decide +kernel
theorem d_Example_addFeature_26 : decode b_Example_addFeature 26 = .ok (.getfield 22, 3) := by decide +kernel
theorem d_Example_addFeature_29 : decode b_Example_addFeature 29 = .ok (.iload_n 2, 1) := by decide +kernel
theorem d_Example_addFeature_30 : decode b_Example_addFeature 30 = .ok (.iastore, 1) := by decide +kernel
theorem d_Example_addFeature_31 : decode b_Example_addFeature 31 = .ok (.aload_n 0, 1) := by decide +kernel
theorem d_Example_addFeature_32 : decode b_Example_addFeature 32 = .ok (.getfield 15, 3) := by decide +kernel
theorem d_Example_addFeature_35 : decode b_Example_addFeature 35 = .ok (.aload_n 0, 1) := by decide +kernel
theorem d_Example_addFeature_36 : decode b_Example_addFeature 36 = .ok (.getfield 22, 3) := by decide +kernel
theorem d_Example_addFeature_39 : decode b_Example_addFeature 39 = .ok (.iload_n 3, 1) := by decide +kernel
theorem d_Example_addFeature_40 : decode b_Example_addFeature 40 = .ok (.iastore, 1) := by decide +kernel
theorem d_Example_addFeature_41 : decode b_Example_addFeature 41 = .ok (.aload_n 0, 1) := by decide +kernel
theorem d_Example_addFeature_42 : decode b_Example_addFeature 42 = .ok (.dup, 1) := by decide +kernel
theorem d_Example_addFeature_43 : decode b_Example_addFeature 43 = .ok (.getfield 22, 3) := by decide +kernel
theorem d_Example_addFeature_46 : decode b_Example_addFeature 46 = .ok (.iconst 1, 1) := by decide +kernel
theorem d_Example_addFeature_47 : decode b_Example_addFeature 47 = .ok (.iadd, 1) := by decide +kernel
theorem d_Example_addFeature_48 : decode b_Example_addFeature 48 = .ok (.putfield 22, 3) := by decide +kernel
theorem d_Example_addFeature_51 : decode b_Example_addFeature 51 = .ok (.iconst 1, 1) := by decide +kernel
theorem d_Example_addFeature_52 : decode b_Example_addFeature 52 = .ok (.ireturn, 1) := by decide +kernel
def f_Example_addFeature (fh : Nat → Int32) (fv : Nat → Int32) (fl : Nat → Int32) (k : Nat) (lt : Int32) (nh : Int32) (am : Int32) : Bool := if k < 12 then true else false
def f_Example_addFeature_o1 (fh : Nat → Int32) (fv : Nat → Int32) (fl : Nat → Int32) (k : Nat) (lt : Int32) (nh : Int32) (am : Int32) : Nat := if k < 12 then k + 1 else k
def f_Example_addFeature_o2 (fh : Nat → Int32) (fv : Nat → Int32) (fl : Nat → Int32) (k : Nat) (lt : Int32) (nh : Int32) (am : Int32) : Nat → Int32 := if k < 12 then upd fh k nh else fh
def f_Example_addFeature_o3 (fh : Nat → Int32) (fv : Nat → Int32) (fl : Nat → Int32) (k : Nat) (lt : Int32) (nh : Int32) (am : Int32) : Nat → Int32 := if k < 12 then upd fv k am else fv
def f_Example_addFeature_o4 (fh : Nat → Int32) (fv : Nat → Int32) (fl : Nat → Int32) (k : Nat) (lt : Int32) (nh : Int32) (am : Int32) : Nat → Int32 := if k < 12 then upd fl k lt else fl
set_option maxHeartbeats 4000000 in
set_option maxRecDepth 100000 in
theorem c_Example_addFeature (l : Launch) (D : va_G) (G : Nat → ClassId) (A : Nat → Prop) (Z : va_W) (x : Nat) (xa : Nat) (xb : Nat) (xc : Nat) (fh : Nat → Int32) (fv : Nat → Int32) (fl : Nat → Int32) (k : Nat) (lab : Bool) (lb : Int32) (im : Int32) (lt : Int32) (nh : Int32) (am : Int32) (hlt : hq_ch lt) (hk : k ≤ 12) : hq_FI l D G A y_Example_addFeature b_Example_addFeature 4 .boolean 0 [.ref x, .int lt, .int nh, .int am] ([hq_o1 x xa xb xc (nI k) (hq_z lab) lb im, hq_ai xa (G 0) 12 fh, hq_ai xb (G 0) 12 fv, hq_ai xc (G 2) 12 fl] ++ Z) (hq_z (f_Example_addFeature fh fv fl k lt nh am)) ([hq_o1 x xa xb xc (nI (f_Example_addFeature_o1 fh fv fl k lt nh am)) (hq_z lab) lb im, hq_ai xa (G 0) 12 (f_Example_addFeature_o2 fh fv fl k lt nh am), hq_ai xb (G 0) 12 (f_Example_addFeature_o3 fh fv fl k lt nh am), hq_ai xc (G 2) 12 (f_Example_addFeature_o4 fh fv fl k lt nh am)] ++ Z) := by
  refine hq_bI (by decide) (Nat.le_of_ble_eq_true rfl) (fun r u h => by rw [h]; exact hq_znar _) ?_
  intro p e s m args below meth c Q hx hb hml hts hown hA hK hN hret ls H locs hl hP hD hS
  have hown : s.vm.findClass "HashedLearner$Example" = some m.cls := hown
  have hl : lv_has ls 4 [(0, .ref x), (1, .int lt), (2, .int nh), (3, .int am)] := hl
  refine lv_aload_n hx hb d_Example_addFeature_0 rfl (lv_at hl 0 rfl) ?_
  refine va_get (D := D) (ci := 1) (v := .int (nI k)) (C := R_Example) (T := F_Example) (N := 7) hx hb hts uw_Example hown hK hP 0 rfl rfl 3 (by decide) (hts _ fl_Example_22) (fun _ h9 => h9) rfl d_Example_addFeature_1 ?_
  refine lv_bipush (v := 12) hx hb d_Example_addFeature_4 (by decide) ?_
  refine lv_icmp_lt (tgt := 11) hx hb d_Example_addFeature_6 rfl (fun c6 => ?_) (fun c6 => ?_)
  · -- 6 taken
    have c6 : k < 12 := (nI_ltI (a := k) (b := 12) (by omega) (by omega)).mp c6
    refine lv_aload_n hx hb d_Example_addFeature_11 rfl (lv_at hl 0 rfl) ?_
    refine va_get (D := D) (ci := 1) (v := .ref xc) (C := R_Example) (T := F_Example) (N := 7) hx hb hts uw_Example hown hK hP 0 rfl rfl 2 (by decide) (hts _ fl_Example_18) (fun _ h9 => h9) rfl d_Example_addFeature_12 ?_
    refine lv_aload_n hx hb d_Example_addFeature_15 rfl (lv_at hl 0 rfl) ?_
    refine va_get (D := D) (ci := 1) (v := .int (nI k)) (C := R_Example) (T := F_Example) (N := 7) hx hb hts uw_Example hown hK hP 0 rfl rfl 3 (by decide) (hts _ fl_Example_22) (fun _ h9 => h9) rfl d_Example_addFeature_16 ?_
    refine lv_iload_n hx hb d_Example_addFeature_19 rfl (lv_at hl 1 rfl) ?_
    refine hq_cast (j := k) hx hb hK hP hD hS 3 rfl (by omega) (by omega) (hq_ch_vp hlt) d_Example_addFeature_20 (fun H locs hP hD hS => ?_)
    have hP : va_P D hq_cl ([hq_o1 x xa xb xc (nI k) (hq_z lab) lb im, hq_ai xa (G 0) 12 fh, hq_ai xb (G 0) 12 fv, hq_ai xc (G 2) 12 (upd fl k lt)] ++ Z) H := hP
    have hD : va_D A ([hq_o1 x xa xb xc (nI k) (hq_z lab) lb im, hq_ai xa (G 0) 12 fh, hq_ai xb (G 0) 12 fv, hq_ai xc (G 2) 12 (upd fl k lt)] ++ Z) := hD
    refine lv_aload_n hx hb d_Example_addFeature_21 rfl (lv_at hl 0 rfl) ?_
    refine va_get (D := D) (ci := 1) (v := .ref xa) (C := R_Example) (T := F_Example) (N := 7) hx hb hts uw_Example hown hK hP 0 rfl rfl 0 (by decide) (hts _ fl_Example_9) (fun _ h9 => h9) rfl d_Example_addFeature_22 ?_
    refine lv_aload_n hx hb d_Example_addFeature_25 rfl (lv_at hl 0 rfl) ?_
    refine va_get (D := D) (ci := 1) (v := .int (nI k)) (C := R_Example) (T := F_Example) (N := 7) hx hb hts uw_Example hown hK hP 0 rfl rfl 3 (by decide) (hts _ fl_Example_22) (fun _ h9 => h9) rfl d_Example_addFeature_26 ?_
    refine lv_iload_n hx hb d_Example_addFeature_29 rfl (lv_at hl 2 rfl) ?_
    refine hq_iast (j := k) hx hb hK hP hD hS 1 rfl (by omega) (by omega) d_Example_addFeature_30 (fun H locs hP hD hS => ?_)
    have hP : va_P D hq_cl ([hq_o1 x xa xb xc (nI k) (hq_z lab) lb im, hq_ai xa (G 0) 12 (upd fh k nh), hq_ai xb (G 0) 12 fv, hq_ai xc (G 2) 12 (upd fl k lt)] ++ Z) H := hP
    have hD : va_D A ([hq_o1 x xa xb xc (nI k) (hq_z lab) lb im, hq_ai xa (G 0) 12 (upd fh k nh), hq_ai xb (G 0) 12 fv, hq_ai xc (G 2) 12 (upd fl k lt)] ++ Z) := hD
    refine lv_aload_n hx hb d_Example_addFeature_31 rfl (lv_at hl 0 rfl) ?_
    refine va_get (D := D) (ci := 1) (v := .ref xb) (C := R_Example) (T := F_Example) (N := 7) hx hb hts uw_Example hown hK hP 0 rfl rfl 1 (by decide) (hts _ fl_Example_15) (fun _ h9 => h9) rfl d_Example_addFeature_32 ?_
    refine lv_aload_n hx hb d_Example_addFeature_35 rfl (lv_at hl 0 rfl) ?_
    refine va_get (D := D) (ci := 1) (v := .int (nI k)) (C := R_Example) (T := F_Example) (N := 7) hx hb hts uw_Example hown hK hP 0 rfl rfl 3 (by decide) (hts _ fl_Example_22) (fun _ h9 => h9) rfl d_Example_addFeature_36 ?_
    refine lv_iload_n hx hb d_Example_addFeature_39 rfl (lv_at hl 3 rfl) ?_
    refine hq_iast (j := k) hx hb hK hP hD hS 2 rfl (by omega) (by omega) d_Example_addFeature_40 (fun H locs hP hD hS => ?_)
    have hP : va_P D hq_cl ([hq_o1 x xa xb xc (nI k) (hq_z lab) lb im, hq_ai xa (G 0) 12 (upd fh k nh), hq_ai xb (G 0) 12 (upd fv k am), hq_ai xc (G 2) 12 (upd fl k lt)] ++ Z) H := hP
    have hD : va_D A ([hq_o1 x xa xb xc (nI k) (hq_z lab) lb im, hq_ai xa (G 0) 12 (upd fh k nh), hq_ai xb (G 0) 12 (upd fv k am), hq_ai xc (G 2) 12 (upd fl k lt)] ++ Z) := hD
    refine lv_aload_n hx hb d_Example_addFeature_41 rfl (lv_at hl 0 rfl) ?_
    refine lv_dup hx hb d_Example_addFeature_42 rfl ?_
    refine va_get (D := D) (ci := 1) (v := .int (nI k)) (C := R_Example) (T := F_Example) (N := 7) hx hb hts uw_Example hown hK hP 0 rfl rfl 3 (by decide) (hts _ fl_Example_22) (fun _ h9 => h9) rfl d_Example_addFeature_43 ?_
    refine lv_iconst (v := 1) hx hb d_Example_addFeature_46 (by decide) ?_
    refine lv_iadd hx hb d_Example_addFeature_47 ?_
    refine hq_topi (x' := nI (k + 1)) (nI_add k 1) ?_
    refine va_put (D := D) (ci := 1) (v := .int (nI (k + 1))) (ty := .int) (C := R_Example) (T := F_Example) (N := 7) hx hb hts uw_Example t_Example t_Example_ok n_Example hown hK hP hD hS 0 rfl rfl 3 (by decide) (hts _ fl_Example_22) (fun _ h9 => h9) rfl (by decide +kernel) (rfl) (rfl) (Nat.le_of_ble_eq_true rfl) d_Example_addFeature_48 (fun H locs hP hD hS => ?_)
    have hP : va_P D hq_cl ([hq_o1 x xa xb xc (nI (k + 1)) (hq_z lab) lb im, hq_ai xa (G 0) 12 (upd fh k nh), hq_ai xb (G 0) 12 (upd fv k am), hq_ai xc (G 2) 12 (upd fl k lt)] ++ Z) H := hP
    have hD : va_D A ([hq_o1 x xa xb xc (nI (k + 1)) (hq_z lab) lb im, hq_ai xa (G 0) 12 (upd fh k nh), hq_ai xb (G 0) 12 (upd fv k am), hq_ai xc (G 2) 12 (upd fl k lt)] ++ Z) := hD
    refine lv_iconst (v := 1) hx hb d_Example_addFeature_51 (by decide) ?_
    have hP : va_P D hq_cl ([hq_o1 x xa xb xc (nI (f_Example_addFeature_o1 fh fv fl k lt nh am)) (hq_z lab) lb im, hq_ai xa (G 0) 12 (f_Example_addFeature_o2 fh fv fl k lt nh am), hq_ai xb (G 0) 12 (f_Example_addFeature_o3 fh fv fl k lt nh am), hq_ai xc (G 2) 12 (f_Example_addFeature_o4 fh fv fl k lt nh am)] ++ Z) H := by rw [show nI (f_Example_addFeature_o1 fh fv fl k lt nh am) = nI (k + 1) by (rw [f_Example_addFeature_o1, if_pos c6] <;> rfl), show f_Example_addFeature_o2 fh fv fl k lt nh am = upd fh k nh by (rw [f_Example_addFeature_o2, if_pos c6] <;> rfl), show f_Example_addFeature_o3 fh fv fl k lt nh am = upd fv k am by (rw [f_Example_addFeature_o3, if_pos c6] <;> rfl), show f_Example_addFeature_o4 fh fv fl k lt nh am = upd fl k lt by (rw [f_Example_addFeature_o4, if_pos c6] <;> rfl)]; exact hP
    have hD : va_D A ([hq_o1 x xa xb xc (nI (f_Example_addFeature_o1 fh fv fl k lt nh am)) (hq_z lab) lb im, hq_ai xa (G 0) 12 (f_Example_addFeature_o2 fh fv fl k lt nh am), hq_ai xb (G 0) 12 (f_Example_addFeature_o3 fh fv fl k lt nh am), hq_ai xc (G 2) 12 (f_Example_addFeature_o4 fh fv fl k lt nh am)] ++ Z) := by rw [show nI (f_Example_addFeature_o1 fh fv fl k lt nh am) = nI (k + 1) by (rw [f_Example_addFeature_o1, if_pos c6] <;> rfl), show f_Example_addFeature_o2 fh fv fl k lt nh am = upd fh k nh by (rw [f_Example_addFeature_o2, if_pos c6] <;> rfl), show f_Example_addFeature_o3 fh fv fl k lt nh am = upd fv k am by (rw [f_Example_addFeature_o3, if_pos c6] <;> rfl), show f_Example_addFeature_o4 fh fv fl k lt nh am = upd fl k lt by (rw [f_Example_addFeature_o4, if_pos c6] <;> rfl)]; exact hD
    exact hret 1 () H locs 52 ls d_Example_addFeature_52 (by rw [f_Example_addFeature, if_pos c6] <;> rfl) hP hD hS
  · -- 6 not taken
    have c6 : ¬ k < 12 := fun h => c6 ((nI_ltI (a := k) (b := 12) (by omega) (by omega)).mpr h)
    refine lv_iconst (v := 0) hx hb d_Example_addFeature_9 (by decide) ?_
    have hP : va_P D hq_cl ([hq_o1 x xa xb xc (nI (f_Example_addFeature_o1 fh fv fl k lt nh am)) (hq_z lab) lb im, hq_ai xa (G 0) 12 (f_Example_addFeature_o2 fh fv fl k lt nh am), hq_ai xb (G 0) 12 (f_Example_addFeature_o3 fh fv fl k lt nh am), hq_ai xc (G 2) 12 (f_Example_addFeature_o4 fh fv fl k lt nh am)] ++ Z) H := by rw [show nI (f_Example_addFeature_o1 fh fv fl k lt nh am) = nI k by (rw [f_Example_addFeature_o1, if_neg c6] <;> rfl), show f_Example_addFeature_o2 fh fv fl k lt nh am = fh by (rw [f_Example_addFeature_o2, if_neg c6] <;> rfl), show f_Example_addFeature_o3 fh fv fl k lt nh am = fv by (rw [f_Example_addFeature_o3, if_neg c6] <;> rfl), show f_Example_addFeature_o4 fh fv fl k lt nh am = fl by (rw [f_Example_addFeature_o4, if_neg c6] <;> rfl)]; exact hP
    have hD : va_D A ([hq_o1 x xa xb xc (nI (f_Example_addFeature_o1 fh fv fl k lt nh am)) (hq_z lab) lb im, hq_ai xa (G 0) 12 (f_Example_addFeature_o2 fh fv fl k lt nh am), hq_ai xb (G 0) 12 (f_Example_addFeature_o3 fh fv fl k lt nh am), hq_ai xc (G 2) 12 (f_Example_addFeature_o4 fh fv fl k lt nh am)] ++ Z) := by rw [show nI (f_Example_addFeature_o1 fh fv fl k lt nh am) = nI k by (rw [f_Example_addFeature_o1, if_neg c6] <;> rfl), show f_Example_addFeature_o2 fh fv fl k lt nh am = fh by (rw [f_Example_addFeature_o2, if_neg c6] <;> rfl), show f_Example_addFeature_o3 fh fv fl k lt nh am = fv by (rw [f_Example_addFeature_o3, if_neg c6] <;> rfl), show f_Example_addFeature_o4 fh fv fl k lt nh am = fl by (rw [f_Example_addFeature_o4, if_neg c6] <;> rfl)]; exact hD
    exact hret 0 () H locs 10 ls d_Example_addFeature_10 (by rw [f_Example_addFeature, if_neg c6] <;> rfl) hP hD hS
theorem d_Crossings_close_0 : decode b_Crossings_close 0 = .ok (.aload_n 0, 1) := by decide +kernel
theorem d_Crossings_close_1 : decode b_Crossings_close 1 = .ok (.iconst 1, 1) := by decide +kernel
theorem d_Crossings_close_2 : decode b_Crossings_close 2 = .ok (.putfield 22, 3) := by decide +kernel
theorem d_Crossings_close_5 : decode b_Crossings_close 5 = .ok (.return_, 1) := by decide +kernel
set_option maxHeartbeats 4000000 in
set_option maxRecDepth 100000 in
theorem c_Crossings_close (l : Launch) (D : va_G) (G : Nat → ClassId) (A : Nat → Prop) (Z : va_W) (h : Nat) (ca : Nat) (cb : Nat) (cl : Nat → Int32) (cr : Nat → Int32) (k : Nat) (cd : Bool) : hq_FV l D G A y_Crossings_close b_Crossings_close 1 0 [.ref h] ([hq_o0 h ca cb (nI k) (hq_z cd), hq_ai ca (G 2) 3 cl, hq_ai cb (G 2) 3 cr] ++ Z) ([hq_o0 h ca cb (nI k) (hq_z true), hq_ai ca (G 2) 3 cl, hq_ai cb (G 2) 3 cr] ++ Z) := by
  refine hq_bV (by decide) (Nat.le_of_ble_eq_true rfl) ?_
  intro p e s m args below meth c Q hx hb hml hts hown hA hK hN hin hret ls H locs hl hP hD hS
  have hown : s.vm.findClass "HashedLearner$Crossings" = some m.cls := hown
  have hl : lv_has ls 1 [(0, .ref h)] := hl
  refine lv_aload_n hx hb d_Crossings_close_0 rfl (lv_at hl 0 rfl) ?_
  refine lv_iconst (v := 1) hx hb d_Crossings_close_1 (by decide) ?_
  refine va_put (D := D) (ci := 0) (v := .int 1) (ty := .boolean) (C := R_Crossings) (T := F_Crossings) (N := 4) hx hb hts uw_Crossings t_Crossings t_Crossings_ok n_Crossings hown hK hP hD hS 0 rfl rfl 3 (by decide) (hts _ fl_Crossings_22) (fun _ h9 => h9) rfl (by decide +kernel) (by decide) (by decide) (Nat.le_of_ble_eq_true rfl) d_Crossings_close_2 (fun H locs hP hD hS => ?_)
  have hP : va_P D hq_cl ([hq_o0 h ca cb (nI k) 1, hq_ai ca (G 2) 3 cl, hq_ai cb (G 2) 3 cr] ++ Z) H := hP
  have hD : va_D A ([hq_o0 h ca cb (nI k) 1, hq_ai ca (G 2) 3 cl, hq_ai cb (G 2) 3 cr] ++ Z) := hD
  have e9_0 : (hq_z true) = 1 := by rfl
  have hP : va_P D hq_cl ([hq_o0 h ca cb (nI k) (hq_z true), hq_ai ca (G 2) 3 cl, hq_ai cb (G 2) 3 cr] ++ Z) H := by rw [e9_0]; exact hP
  have hD : va_D A ([hq_o0 h ca cb (nI k) (hq_z true), hq_ai ca (G 2) 3 cl, hq_ai cb (G 2) 3 cr] ++ Z) := by rw [e9_0]; exact hD
  exact hret () H locs 5 ls d_Crossings_close_5 (trivial) hP hD hS
theorem d_Crossings_contains_0 : decode b_Crossings_contains 0 = .ok (.iconst 0, 1) := by decide +kernel
theorem d_Crossings_contains_1 : decode b_Crossings_contains 1 = .ok (.istore_n 3, 1) := by decide +kernel
theorem d_Crossings_contains_2 : decode b_Crossings_contains 2 = .ok (.iload_n 3, 1) := by decide +kernel
theorem d_Crossings_contains_3 : decode b_Crossings_contains 3 = .ok (.aload_n 0, 1) := by decide +kernel
theorem d_Crossings_contains_4 : decode b_Crossings_contains 4 = .ok (.getfield 18, 3) := by decide +kernel
theorem d_Crossings_contains_7 : decode b_Crossings_contains 7 = .ok (.if_icmp .ge (31), 3) := by decide +kernel
theorem d_Crossings_contains_10 : decode b_Crossings_contains 10 = .ok (.aload_n 0, 1) := by decide +kernel
theorem d_Crossings_contains_11 : decode b_Crossings_contains 11 = .ok (.getfield 9, 3) := by decide +kernel
theorem d_Crossings_contains_14 : decode b_Crossings_contains 14 = .ok (.iload_n 3, 1) := by decide +kernel
theorem d_Crossings_contains_15 : decode b_Crossings_contains 15 = .ok (.caload, 1) := by decide +kernel
theorem d_Crossings_contains_16 : decode b_Crossings_contains 16 = .ok (.iload_n 1, 1) := by decide +kernel
theorem d_Crossings_contains_17 : decode b_Crossings_contains 17 = .ok (.if_icmp .ne (15), 3) := by decide +kernel
theorem d_Crossings_contains_20 : decode b_Crossings_contains 20 = .ok (.aload_n 0, 1) := by decide +kernel
theorem d_Crossings_contains_21 : decode b_Crossings_contains 21 = .ok (.getfield 15, 3) := by decide +kernel
theorem d_Crossings_contains_24 : decode b_Crossings_contains 24 = .ok (.iload_n 3, 1) := by decide +kernel
theorem d_Crossings_contains_25 : decode b_Crossings_contains 25 = .ok (.caload, 1) := by decide +kernel
theorem d_Crossings_contains_26 : decode b_Crossings_contains 26 = .ok (.iload_n 2, 1) := by decide +kernel
theorem d_Crossings_contains_27 : decode b_Crossings_contains 27 = .ok (.if_icmp .ne (5), 3) := by decide +kernel
theorem d_Crossings_contains_30 : decode b_Crossings_contains 30 = .ok (.iconst 1, 1) := by decide +kernel
theorem d_Crossings_contains_31 : decode b_Crossings_contains 31 = .ok (.ireturn, 1) := by decide +kernel
theorem d_Crossings_contains_32 : decode b_Crossings_contains 32 = .ok (.iinc 3 (1), 3) := by decide +kernel
theorem d_Crossings_contains_35 : decode b_Crossings_contains 35 = .ok (.goto (-33), 3) := by decide +kernel
theorem d_Crossings_contains_38 : decode b_Crossings_contains 38 = .ok (.iconst 0, 1) := by decide +kernel
theorem d_Crossings_contains_39 : decode b_Crossings_contains 39 = .ok (.ireturn, 1) := by decide +kernel
set_option maxHeartbeats 4000000 in
set_option maxRecDepth 100000 in
theorem c_Crossings_contains (l : Launch) (D : va_G) (G : Nat → ClassId) (A : Nat → Prop) (Z : va_W) (h : Nat) (ca : Nat) (cb : Nat) (cl : Nat → Int32) (cr : Nat → Int32) (k : Nat) (cd : Bool) (x : Int32) (y : Int32) (hk : k ≤ 3) : hq_FI l D G A y_Crossings_contains b_Crossings_contains 4 .boolean 0 [.ref h, .int x, .int y] ([hq_o0 h ca cb (nI k) (hq_z cd), hq_ai ca (G 2) 3 cl, hq_ai cb (G 2) 3 cr] ++ Z) (hq_z (hq_hasP cl cr x y 0 k)) ([hq_o0 h ca cb (nI k) (hq_z cd), hq_ai ca (G 2) 3 cl, hq_ai cb (G 2) 3 cr] ++ Z) := by
  refine hq_bI (by decide) (Nat.le_of_ble_eq_true rfl) (fun r u h => by rw [h]; exact hq_znar _) ?_
  intro p e s m args below meth c Q hx hb hml hts hown hA hK hN hret ls H locs hl hP hD hS
  have hown : s.vm.findClass "HashedLearner$Crossings" = some m.cls := hown
  have hl : lv_has ls 4 [(0, .ref h), (1, .int x), (2, .int y)] := hl
  refine lv_iconst (v := nI 0) hx hb d_Crossings_contains_0 (by decide) ?_
  refine lv_istore_n (nL := 4) (lv' := [(3, .int (nI 0)), (0, .ref h), (1, .int x), (2, .int y)]) hx hb d_Crossings_contains_1 rfl hl (by decide) rfl (fun ls hl => ?_)
  have cut2 : ∀ (kz : Nat) (a : Nat) (ls : Array Slot) (H : Heap) (locs : List Loc), k - a = kz → (a ≤ k) → (hq_hasP cl cr x y 0 k = hq_hasP cl cr x y a (k - a)) → lv_has ls 4 [(0, .ref h), (1, .int x), (2, .int y), (3, .int (nI a))] → va_P D hq_cl ([hq_o0 h ca cb (nI k) (hq_z cd), hq_ai ca (G 2) 3 cl, hq_ai cb (G 2) 3 cr] ++ Z) H → va_D A ([hq_o0 h ca cb (nI k) (hq_z cd), hq_ai ca (G 2) 3 cl, hq_ai cb (G 2) 3 cr] ++ Z) → va_S A s.heap H locs → W p l e (hq_rm 0 0 0) s m args below meth c H locs 0 0 Q (F0 m 2 ls []) := by
    intro kz
    induction kz using Nat.strongRecOn with
    | ind kz ih =>
      intro a ls H locs hkz ha hF hl hP hD hS
      subst hkz
      refine lv_iload_n hx hb d_Crossings_contains_2 rfl (lv_at hl 3 rfl) ?_
      refine lv_aload_n hx hb d_Crossings_contains_3 rfl (lv_at hl 0 rfl) ?_
      refine va_get (D := D) (ci := 0) (v := .int (nI k)) (C := R_Crossings) (T := F_Crossings) (N := 4) hx hb hts uw_Crossings hown hK hP 0 rfl rfl 2 (by decide) (hts _ fl_Crossings_18) (fun _ h9 => h9) rfl d_Crossings_contains_4 ?_
      refine lv_icmp_ge (tgt := 38) hx hb d_Crossings_contains_7 rfl (fun c7 => ?_) (fun c7 => ?_)
      · -- 7 taken
        have c7 : k ≤ a := (nI_leI (a := k) (b := a) (by omega) (by omega)).mp c7
        refine lv_iconst (v := 0) hx hb d_Crossings_contains_38 (by decide) ?_
        exact hret 0 () H locs 39 ls d_Crossings_contains_39 (by rw [hF, hq_hasP_end (f := cl) (g := cr) (a := a) (j := k) (by omega)] <;> rfl) hP hD hS
      · -- 7 not taken
        have c7 : ¬ k ≤ a := fun h => c7 ((nI_leI (a := k) (b := a) (by omega) (by omega)).mpr h)
        refine lv_aload_n hx hb d_Crossings_contains_10 rfl (lv_at hl 0 rfl) ?_
        refine va_get (D := D) (ci := 0) (v := .ref ca) (C := R_Crossings) (T := F_Crossings) (N := 4) hx hb hts uw_Crossings hown hK hP 0 rfl rfl 0 (by decide) (hts _ fl_Crossings_9) (fun _ h9 => h9) rfl d_Crossings_contains_11 ?_
        refine lv_iload_n hx hb d_Crossings_contains_14 rfl (lv_at hl 3 rfl) ?_
        refine hq_cald (j := a) hx hb hK hP 1 rfl (by omega) (by omega) d_Crossings_contains_15 ?_
        refine lv_iload_n hx hb d_Crossings_contains_16 rfl (lv_at hl 1 rfl) ?_
        refine lv_icmp_ne (tgt := 32) hx hb d_Crossings_contains_17 rfl (fun c17 => ?_) (fun c17 => ?_)
        · -- 17 taken
          have c17 : ¬ (cl a) = x := c17
          refine lv_iinc (nL := 4) (k := 3) (v := nI (a + 1)) (lv' := [(3, .int (nI (a + 1))), (0, .ref h), (1, .int x), (2, .int y)]) hx hb d_Crossings_contains_32 hl rfl (nI_add a 1) (by decide) rfl (fun ls hl => ?_)
          refine lv_goto (tgt := 2) hx hb d_Crossings_contains_35 rfl ?_
          exact ih _ (by omega) (a + 1) ls H locs rfl (by first | assumption | omega) (by first | rfl | exact hF.trans (hq_hasP_l (by omega) c17) | exact hF.trans (hq_hasP_r (by omega) c27)) (lv_sub hl [1, 2, 3, 0] rfl) hP hD hS
        · -- 17 not taken
          have c17 : (cl a) = x := c17
          refine lv_aload_n hx hb d_Crossings_contains_20 rfl (lv_at hl 0 rfl) ?_
          refine va_get (D := D) (ci := 0) (v := .ref cb) (C := R_Crossings) (T := F_Crossings) (N := 4) hx hb hts uw_Crossings hown hK hP 0 rfl rfl 1 (by decide) (hts _ fl_Crossings_15) (fun _ h9 => h9) rfl d_Crossings_contains_21 ?_
          refine lv_iload_n hx hb d_Crossings_contains_24 rfl (lv_at hl 3 rfl) ?_
          refine hq_cald (j := a) hx hb hK hP 2 rfl (by omega) (by omega) d_Crossings_contains_25 ?_
          refine lv_iload_n hx hb d_Crossings_contains_26 rfl (lv_at hl 2 rfl) ?_
          refine lv_icmp_ne (tgt := 32) hx hb d_Crossings_contains_27 rfl (fun c27 => ?_) (fun c27 => ?_)
          · -- 27 taken
            have c27 : ¬ (cr a) = y := c27
            refine lv_iinc (nL := 4) (k := 3) (v := nI (a + 1)) (lv' := [(3, .int (nI (a + 1))), (0, .ref h), (1, .int x), (2, .int y)]) hx hb d_Crossings_contains_32 hl rfl (nI_add a 1) (by decide) rfl (fun ls hl => ?_)
            refine lv_goto (tgt := 2) hx hb d_Crossings_contains_35 rfl ?_
            exact ih _ (by omega) (a + 1) ls H locs rfl (by first | assumption | omega) (by first | rfl | exact hF.trans (hq_hasP_l (by omega) c17) | exact hF.trans (hq_hasP_r (by omega) c27)) (lv_sub hl [1, 2, 3, 0] rfl) hP hD hS
          · -- 27 not taken
            have c27 : (cr a) = y := c27
            refine lv_iconst (v := 1) hx hb d_Crossings_contains_30 (by decide) ?_
            exact hret 1 () H locs 31 ls d_Crossings_contains_31 (by rw [hF, hq_hasP_yes (f := cl) (g := cr) (a := a) (j := k) (by omega) c17 c27] <;> rfl) hP hD hS
  exact cut2 _ 0 ls H locs rfl (by first | assumption | omega) (by first | rfl | exact hF.trans (hq_hasP_l (by omega) c17) | exact hF.trans (hq_hasP_r (by omega) c27)) (lv_sub hl [1, 2, 3, 0] rfl) hP hD hS
theorem d_Crossings_add_0 : decode b_Crossings_add 0 = .ok (.aload_n 0, 1) := by decide +kernel
theorem d_Crossings_add_1 : decode b_Crossings_add 1 = .ok (.getfield 22, 3) := by decide +kernel
theorem d_Crossings_add_4 : decode b_Crossings_add 4 = .ok (.ifCond .ne (34), 3) := by decide +kernel
theorem d_Crossings_add_7 : decode b_Crossings_add 7 = .ok (.aload_n 0, 1) := by decide +kernel
theorem d_Crossings_add_8 : decode b_Crossings_add 8 = .ok (.getfield 18, 3) := by decide +kernel
theorem d_Crossings_add_11 : decode b_Crossings_add 11 = .ok (.iconst 3, 1) := by decide +kernel
theorem d_Crossings_add_12 : decode b_Crossings_add 12 = .ok (.if_icmp .ge (26), 3) := by decide +kernel
theorem d_Crossings_add_15 : decode b_Crossings_add 15 = .ok (.iload_n 1, 1) := by decide +kernel
theorem d_Crossings_add_16 : decode b_Crossings_add 16 = .ok (.invokestatic 26, 3) := by decide +kernel
theorem d_Crossings_add_19 : decode b_Crossings_add 19 = .ok (.ifCond .eq (19), 3) := by decide +kernel
theorem d_Crossings_add_22 : decode b_Crossings_add 22 = .ok (.iload_n 2, 1) := by decide +kernel
theorem d_Crossings_add_23 : decode b_Crossings_add 23 = .ok (.invokestatic 26, 3) := by decide +kernel
theorem d_Crossings_add_26 : decode b_Crossings_add 26 = .ok (.ifCond .eq (12), 3) := by decide +kernel
theorem d_Crossings_add_29 : decode b_Crossings_add 29 = .ok (.aload_n 0, 1) := by decide +kernel
theorem d_Crossings_add_30 : decode b_Crossings_add 30 = .ok (.iload_n 1, 1) := by decide +kernel
theorem d_Crossings_add_31 : decode b_Crossings_add 31 = .ok (.iload_n 2, 1) := by decide +kernel
theorem d_Crossings_add_32 : decode b_Crossings_add 32 = .ok (.invokevirtual 30, 3) := by decide +kernel
theorem d_Crossings_add_35 : decode b_Crossings_add 35 = .ok (.ifCond .eq (5), 3) := by decide +kernel
theorem d_Crossings_add_38 : decode b_Crossings_add 38 = .ok (.iconst 0, 1) := by decide +kernel
theorem d_Crossings_add_39 : decode b_Crossings_add 39 = .ok (.ireturn, 1) := by decide +kernel
theorem d_Crossings_add_40 : decode b_Crossings_add 40 = .ok (.aload_n 0, 1) := by decide +kernel
theorem d_Crossings_add_41 : decode b_Crossings_add 41 = .ok (.getfield 9, 3) := by decide +kernel
theorem d_Crossings_add_44 : decode b_Crossings_add 44 = .ok (.aload_n 0, 1) := by decide +kernel
theorem d_Crossings_add_45 : decode b_Crossings_add 45 = .ok (.getfield 18, 3) := by decide +kernel
theorem d_Crossings_add_48 : decode b_Crossings_add 48 = .ok (.iload_n 1, 1) := by decide +kernel
theorem d_Crossings_add_49 : decode b_Crossings_add 49 = .ok (.castore, 1) := by decide +kernel
theorem d_Crossings_add_50 : decode b_Crossings_add 50 = .ok (.aload_n 0, 1) := by decide +kernel
theorem d_Crossings_add_51 : decode b_Crossings_add 51 = .ok (.getfield 15, 3) := by decide +kernel
theorem d_Crossings_add_54 : decode b_Crossings_add 54 = .ok (.aload_n 0, 1) := by decide +kernel
theorem d_Crossings_add_55 : decode b_Crossings_add 55 = .ok (.getfield 18, 3) := by decide +kernel
theorem d_Crossings_add_58 : decode b_Crossings_add 58 = .ok (.iload_n 2, 1) := by decide +kernel
theorem d_Crossings_add_59 : decode b_Crossings_add 59 = .ok (.castore, 1) := by decide +kernel
theorem d_Crossings_add_60 : decode b_Crossings_add 60 = .ok (.aload_n 0, 1) := by decide +kernel
theorem d_Crossings_add_61 : decode b_Crossings_add 61 = .ok (.dup, 1) := by decide +kernel
theorem d_Crossings_add_62 : decode b_Crossings_add 62 = .ok (.getfield 18, 3) := by decide +kernel
theorem d_Crossings_add_65 : decode b_Crossings_add 65 = .ok (.iconst 1, 1) := by decide +kernel
theorem d_Crossings_add_66 : decode b_Crossings_add 66 = .ok (.iadd, 1) := by decide +kernel
theorem d_Crossings_add_67 : decode b_Crossings_add 67 = .ok (.putfield 18, 3) := by decide +kernel
theorem d_Crossings_add_70 : decode b_Crossings_add 70 = .ok (.iconst 1, 1) := by decide +kernel
theorem d_Crossings_add_71 : decode b_Crossings_add 71 = .ok (.ireturn, 1) := by decide +kernel
def f_Crossings_add (cl : Nat → Int32) (cr : Nat → Int32) (k : Nat) (cd : Bool) (x : Int32) (y : Int32) : Bool := if cd = true then false else if 3 ≤ k then false else if (f_Crossings_isLetter x) = true then if (f_Crossings_isLetter y) = true then if (hq_hasP cl cr x y 0 k) = true then false else true else false else false
def f_Crossings_add_o1 (cl : Nat → Int32) (cr : Nat → Int32) (k : Nat) (cd : Bool) (x : Int32) (y : Int32) : Nat := if cd = true then k else if 3 ≤ k then k else if (f_Crossings_isLetter x) = true then if (f_Crossings_isLetter y) = true then if (hq_hasP cl cr x y 0 k) = true then k else k + 1 else k else k
def f_Crossings_add_o2 (cl : Nat → Int32) (cr : Nat → Int32) (k : Nat) (cd : Bool) (x : Int32) (y : Int32) : Nat → Int32 := if cd = true then cl else if 3 ≤ k then cl else if (f_Crossings_isLetter x) = true then if (f_Crossings_isLetter y) = true then if (hq_hasP cl cr x y 0 k) = true then cl else upd cl k x else cl else cl
def f_Crossings_add_o3 (cl : Nat → Int32) (cr : Nat → Int32) (k : Nat) (cd : Bool) (x : Int32) (y : Int32) : Nat → Int32 := if cd = true then cr else if 3 ≤ k then cr else if (f_Crossings_isLetter x) = true then if (f_Crossings_isLetter y) = true then if (hq_hasP cl cr x y 0 k) = true then cr else upd cr k y else cr else cr
set_option maxHeartbeats 4000000 in
set_option maxRecDepth 100000 in
theorem c_Crossings_add (l : Launch) (D : va_G) (G : Nat → ClassId) (A : Nat → Prop) (Z : va_W) (h : Nat) (ca : Nat) (cb : Nat) (cl : Nat → Int32) (cr : Nat → Int32) (k : Nat) (cd : Bool) (x : Int32) (y : Int32) (hk : k ≤ 3) : hq_FI l D G A y_Crossings_add b_Crossings_add 3 .boolean 2 [.ref h, .int x, .int y] ([hq_o0 h ca cb (nI k) (hq_z cd), hq_ai ca (G 2) 3 cl, hq_ai cb (G 2) 3 cr] ++ Z) (hq_z (f_Crossings_add cl cr k cd x y)) ([hq_o0 h ca cb (nI (f_Crossings_add_o1 cl cr k cd x y)) (hq_z cd), hq_ai ca (G 2) 3 (f_Crossings_add_o2 cl cr k cd x y), hq_ai cb (G 2) 3 (f_Crossings_add_o3 cl cr k cd x y)] ++ Z) := by
  refine hq_bI (by decide) (Nat.le_of_ble_eq_true rfl) (fun r u h => by rw [h]; exact hq_znar _) ?_
  intro p e s m args below meth c Q hx hb hml hts hown hA hK hN hret ls H locs hl hP hD hS
  have hown : s.vm.findClass "HashedLearner$Crossings" = some m.cls := hown
  have hl : lv_has ls 3 [(0, .ref h), (1, .int x), (2, .int y)] := hl
  refine lv_aload_n hx hb d_Crossings_add_0 rfl (lv_at hl 0 rfl) ?_
  refine va_get (D := D) (ci := 0) (v := .int (hq_z cd)) (C := R_Crossings) (T := F_Crossings) (N := 4) hx hb hts uw_Crossings hown hK hP 0 rfl rfl 3 (by decide) (hts _ fl_Crossings_22) (fun _ h9 => h9) rfl d_Crossings_add_1 ?_
  refine lv_if_ne (tgt := 38) hx hb d_Crossings_add_4 rfl (fun c4 => ?_) (fun c4 => ?_)
  · -- 4 taken
    have c4 : cd = true := hq_zn.mp c4
    refine lv_iconst (v := 0) hx hb d_Crossings_add_38 (by decide) ?_
    have hP : va_P D hq_cl ([hq_o0 h ca cb (nI (f_Crossings_add_o1 cl cr k cd x y)) (hq_z cd), hq_ai ca (G 2) 3 (f_Crossings_add_o2 cl cr k cd x y), hq_ai cb (G 2) 3 (f_Crossings_add_o3 cl cr k cd x y)] ++ Z) H := by rw [show nI (f_Crossings_add_o1 cl cr k cd x y) = nI k by (rw [f_Crossings_add_o1, if_pos c4] <;> rfl), show f_Crossings_add_o2 cl cr k cd x y = cl by (rw [f_Crossings_add_o2, if_pos c4] <;> rfl), show f_Crossings_add_o3 cl cr k cd x y = cr by (rw [f_Crossings_add_o3, if_pos c4] <;> rfl)]; exact hP
    have hD : va_D A ([hq_o0 h ca cb (nI (f_Crossings_add_o1 cl cr k cd x y)) (hq_z cd), hq_ai ca (G 2) 3 (f_Crossings_add_o2 cl cr k cd x y), hq_ai cb (G 2) 3 (f_Crossings_add_o3 cl cr k cd x y)] ++ Z) := by rw [show nI (f_Crossings_add_o1 cl cr k cd x y) = nI k by (rw [f_Crossings_add_o1, if_pos c4] <;> rfl), show f_Crossings_add_o2 cl cr k cd x y = cl by (rw [f_Crossings_add_o2, if_pos c4] <;> rfl), show f_Crossings_add_o3 cl cr k cd x y = cr by (rw [f_Crossings_add_o3, if_pos c4] <;> rfl)]; exact hD
    exact hret 0 () H locs 39 ls d_Crossings_add_39 (by rw [f_Crossings_add, if_pos c4] <;> rfl) hP hD hS
  · -- 4 not taken
    have c4 : ¬ cd = true := by rw [hq_z0.mp c4]; decide
    refine lv_aload_n hx hb d_Crossings_add_7 rfl (lv_at hl 0 rfl) ?_
    refine va_get (D := D) (ci := 0) (v := .int (nI k)) (C := R_Crossings) (T := F_Crossings) (N := 4) hx hb hts uw_Crossings hown hK hP 0 rfl rfl 2 (by decide) (hts _ fl_Crossings_18) (fun _ h9 => h9) rfl d_Crossings_add_8 ?_
    refine lv_iconst (v := 3) hx hb d_Crossings_add_11 (by decide) ?_
    refine lv_icmp_ge (tgt := 38) hx hb d_Crossings_add_12 rfl (fun c12 => ?_) (fun c12 => ?_)
    · -- 12 taken
      have c12 : 3 ≤ k := (nI_leI (a := 3) (b := k) (by omega) (by omega)).mp c12
      refine lv_iconst (v := 0) hx hb d_Crossings_add_38 (by decide) ?_
      have hP : va_P D hq_cl ([hq_o0 h ca cb (nI (f_Crossings_add_o1 cl cr k cd x y)) (hq_z cd), hq_ai ca (G 2) 3 (f_Crossings_add_o2 cl cr k cd x y), hq_ai cb (G 2) 3 (f_Crossings_add_o3 cl cr k cd x y)] ++ Z) H := by rw [show nI (f_Crossings_add_o1 cl cr k cd x y) = nI k by (rw [f_Crossings_add_o1, if_neg c4, if_pos c12] <;> rfl), show f_Crossings_add_o2 cl cr k cd x y = cl by (rw [f_Crossings_add_o2, if_neg c4, if_pos c12] <;> rfl), show f_Crossings_add_o3 cl cr k cd x y = cr by (rw [f_Crossings_add_o3, if_neg c4, if_pos c12] <;> rfl)]; exact hP
      have hD : va_D A ([hq_o0 h ca cb (nI (f_Crossings_add_o1 cl cr k cd x y)) (hq_z cd), hq_ai ca (G 2) 3 (f_Crossings_add_o2 cl cr k cd x y), hq_ai cb (G 2) 3 (f_Crossings_add_o3 cl cr k cd x y)] ++ Z) := by rw [show nI (f_Crossings_add_o1 cl cr k cd x y) = nI k by (rw [f_Crossings_add_o1, if_neg c4, if_pos c12] <;> rfl), show f_Crossings_add_o2 cl cr k cd x y = cl by (rw [f_Crossings_add_o2, if_neg c4, if_pos c12] <;> rfl), show f_Crossings_add_o3 cl cr k cd x y = cr by (rw [f_Crossings_add_o3, if_neg c4, if_pos c12] <;> rfl)]; exact hD
      exact hret 0 () H locs 39 ls d_Crossings_add_39 (by rw [f_Crossings_add, if_neg c4, if_pos c12] <;> rfl) hP hD hS
    · -- 12 not taken
      have c12 : ¬ 3 ≤ k := fun h => c12 ((nI_leI (a := 3) (b := k) (by omega) (by omega)).mpr h)
      refine lv_iload_n hx hb d_Crossings_add_15 rfl (lv_at hl 1 rfl) ?_
      have hPc : va_P D hq_cl ([] ++ ([hq_o0 h ca cb (nI k) (hq_z cd), hq_ai ca (G 2) 3 cl, hq_ai cb (G 2) 3 cr] ++ Z)) H := hP
      have hDc : va_D A ([] ++ ([hq_o0 h ca cb (nI k) (hq_z cd), hq_ai ca (G 2) 3 cl, hq_ai cb (G 2) 3 cr] ++ Z)) := hD
      refine hq_iF (hq_rS (As := [.int x]) (rest := []) hx hb hml hown hts (c_Crossings_isLetter l D G A ([hq_o0 h ca cb (nI k) (hq_z cd), hq_ai ca (G 2) 3 cl, hq_ai cb (G 2) 3 cr] ++ Z) x) yy_Crossings_isLetter lk_Crossings_26 hA hK hN hS hPc hDc rfl hl.1 rfl (Nat.le_of_ble_eq_true rfl) d_Crossings_add_16 ⟨by decide, by decide⟩ ⟨by decide, by decide⟩) hS (fun H locs hP hD hS => ?_)
      have hP : va_P D hq_cl ([hq_o0 h ca cb (nI k) (hq_z cd), hq_ai ca (G 2) 3 cl, hq_ai cb (G 2) 3 cr] ++ Z) H := hP
      have hD : va_D A ([hq_o0 h ca cb (nI k) (hq_z cd), hq_ai ca (G 2) 3 cl, hq_ai cb (G 2) 3 cr] ++ Z) := hD
      refine lv_if_eq (tgt := 38) hx hb d_Crossings_add_19 rfl (fun c19 => ?_) (fun c19 => ?_)
      · -- 19 taken
        have c19 : ¬ (f_Crossings_isLetter x) = true := by rw [hq_z0.mp c19]; decide
        refine lv_iconst (v := 0) hx hb d_Crossings_add_38 (by decide) ?_
        have hP : va_P D hq_cl ([hq_o0 h ca cb (nI (f_Crossings_add_o1 cl cr k cd x y)) (hq_z cd), hq_ai ca (G 2) 3 (f_Crossings_add_o2 cl cr k cd x y), hq_ai cb (G 2) 3 (f_Crossings_add_o3 cl cr k cd x y)] ++ Z) H := by rw [show nI (f_Crossings_add_o1 cl cr k cd x y) = nI k by (rw [f_Crossings_add_o1, if_neg c4, if_neg c12, if_neg c19] <;> rfl), show f_Crossings_add_o2 cl cr k cd x y = cl by (rw [f_Crossings_add_o2, if_neg c4, if_neg c12, if_neg c19] <;> rfl), show f_Crossings_add_o3 cl cr k cd x y = cr by (rw [f_Crossings_add_o3, if_neg c4, if_neg c12, if_neg c19] <;> rfl)]; exact hP
        have hD : va_D A ([hq_o0 h ca cb (nI (f_Crossings_add_o1 cl cr k cd x y)) (hq_z cd), hq_ai ca (G 2) 3 (f_Crossings_add_o2 cl cr k cd x y), hq_ai cb (G 2) 3 (f_Crossings_add_o3 cl cr k cd x y)] ++ Z) := by rw [show nI (f_Crossings_add_o1 cl cr k cd x y) = nI k by (rw [f_Crossings_add_o1, if_neg c4, if_neg c12, if_neg c19] <;> rfl), show f_Crossings_add_o2 cl cr k cd x y = cl by (rw [f_Crossings_add_o2, if_neg c4, if_neg c12, if_neg c19] <;> rfl), show f_Crossings_add_o3 cl cr k cd x y = cr by (rw [f_Crossings_add_o3, if_neg c4, if_neg c12, if_neg c19] <;> rfl)]; exact hD
        exact hret 0 () H locs 39 ls d_Crossings_add_39 (by rw [f_Crossings_add, if_neg c4, if_neg c12, if_neg c19] <;> rfl) hP hD hS
      · -- 19 not taken
        have c19 : (f_Crossings_isLetter x) = true := hq_zn.mp c19
        refine lv_iload_n hx hb d_Crossings_add_22 rfl (lv_at hl 2 rfl) ?_
        have hPc : va_P D hq_cl ([] ++ ([hq_o0 h ca cb (nI k) (hq_z cd), hq_ai ca (G 2) 3 cl, hq_ai cb (G 2) 3 cr] ++ Z)) H := hP
        have hDc : va_D A ([] ++ ([hq_o0 h ca cb (nI k) (hq_z cd), hq_ai ca (G 2) 3 cl, hq_ai cb (G 2) 3 cr] ++ Z)) := hD
        refine hq_iF (hq_rS (As := [.int y]) (rest := []) hx hb hml hown hts (c_Crossings_isLetter l D G A ([hq_o0 h ca cb (nI k) (hq_z cd), hq_ai ca (G 2) 3 cl, hq_ai cb (G 2) 3 cr] ++ Z) y) yy_Crossings_isLetter lk_Crossings_26 hA hK hN hS hPc hDc rfl hl.1 rfl (Nat.le_of_ble_eq_true rfl) d_Crossings_add_23 ⟨by decide, by decide⟩ ⟨by decide, by decide⟩) hS (fun H locs hP hD hS => ?_)
        have hP : va_P D hq_cl ([hq_o0 h ca cb (nI k) (hq_z cd), hq_ai ca (G 2) 3 cl, hq_ai cb (G 2) 3 cr] ++ Z) H := hP
        have hD : va_D A ([hq_o0 h ca cb (nI k) (hq_z cd), hq_ai ca (G 2) 3 cl, hq_ai cb (G 2) 3 cr] ++ Z) := hD
        refine lv_if_eq (tgt := 38) hx hb d_Crossings_add_26 rfl (fun c26 => ?_) (fun c26 => ?_)
        · -- 26 taken
          have c26 : ¬ (f_Crossings_isLetter y) = true := by rw [hq_z0.mp c26]; decide
          refine lv_iconst (v := 0) hx hb d_Crossings_add_38 (by decide) ?_
          have hP : va_P D hq_cl ([hq_o0 h ca cb (nI (f_Crossings_add_o1 cl cr k cd x y)) (hq_z cd), hq_ai ca (G 2) 3 (f_Crossings_add_o2 cl cr k cd x y), hq_ai cb (G 2) 3 (f_Crossings_add_o3 cl cr k cd x y)] ++ Z) H := by rw [show nI (f_Crossings_add_o1 cl cr k cd x y) = nI k by (rw [f_Crossings_add_o1, if_neg c4, if_neg c12, if_pos c19, if_neg c26] <;> rfl), show f_Crossings_add_o2 cl cr k cd x y = cl by (rw [f_Crossings_add_o2, if_neg c4, if_neg c12, if_pos c19, if_neg c26] <;> rfl), show f_Crossings_add_o3 cl cr k cd x y = cr by (rw [f_Crossings_add_o3, if_neg c4, if_neg c12, if_pos c19, if_neg c26] <;> rfl)]; exact hP
          have hD : va_D A ([hq_o0 h ca cb (nI (f_Crossings_add_o1 cl cr k cd x y)) (hq_z cd), hq_ai ca (G 2) 3 (f_Crossings_add_o2 cl cr k cd x y), hq_ai cb (G 2) 3 (f_Crossings_add_o3 cl cr k cd x y)] ++ Z) := by rw [show nI (f_Crossings_add_o1 cl cr k cd x y) = nI k by (rw [f_Crossings_add_o1, if_neg c4, if_neg c12, if_pos c19, if_neg c26] <;> rfl), show f_Crossings_add_o2 cl cr k cd x y = cl by (rw [f_Crossings_add_o2, if_neg c4, if_neg c12, if_pos c19, if_neg c26] <;> rfl), show f_Crossings_add_o3 cl cr k cd x y = cr by (rw [f_Crossings_add_o3, if_neg c4, if_neg c12, if_pos c19, if_neg c26] <;> rfl)]; exact hD
          exact hret 0 () H locs 39 ls d_Crossings_add_39 (by rw [f_Crossings_add, if_neg c4, if_neg c12, if_pos c19, if_neg c26] <;> rfl) hP hD hS
        · -- 26 not taken
          have c26 : (f_Crossings_isLetter y) = true := hq_zn.mp c26
          refine lv_aload_n hx hb d_Crossings_add_29 rfl (lv_at hl 0 rfl) ?_
          refine lv_iload_n hx hb d_Crossings_add_30 rfl (lv_at hl 1 rfl) ?_
          refine lv_iload_n hx hb d_Crossings_add_31 rfl (lv_at hl 2 rfl) ?_
          have hPc : va_P D hq_cl ([hq_o0 h ca cb (nI k) (hq_z cd), hq_ai ca (G 2) 3 cl, hq_ai cb (G 2) 3 cr] ++ Z) H := hP
          have hDc : va_D A ([hq_o0 h ca cb (nI k) (hq_z cd), hq_ai ca (G 2) 3 cl, hq_ai cb (G 2) 3 cr] ++ Z) := hD
          refine hq_iF (hq_rV (As := [.int x, .int y]) (rest := []) hx hb hml hown hts (c_Crossings_contains l D G A Z h ca cb cl cr k cd x y (by first | assumption | omega)) yy_Crossings_contains lk_Crossings_30 hA hK hN hS hPc hDc 0 0 rfl rfl rfl hl.1 rfl (Nat.le_of_ble_eq_true rfl) d_Crossings_add_32 ⟨by decide, by decide⟩ ⟨by decide, by decide⟩) hS (fun H locs hP hD hS => ?_)
          have hP : va_P D hq_cl ([hq_o0 h ca cb (nI k) (hq_z cd), hq_ai ca (G 2) 3 cl, hq_ai cb (G 2) 3 cr] ++ Z) H := hP
          have hD : va_D A ([hq_o0 h ca cb (nI k) (hq_z cd), hq_ai ca (G 2) 3 cl, hq_ai cb (G 2) 3 cr] ++ Z) := hD
          refine lv_if_eq (tgt := 40) hx hb d_Crossings_add_35 rfl (fun c35 => ?_) (fun c35 => ?_)
          · -- 35 taken
            have c35 : ¬ (hq_hasP cl cr x y 0 k) = true := by rw [hq_z0.mp c35]; decide
            refine lv_aload_n hx hb d_Crossings_add_40 rfl (lv_at hl 0 rfl) ?_
            refine va_get (D := D) (ci := 0) (v := .ref ca) (C := R_Crossings) (T := F_Crossings) (N := 4) hx hb hts uw_Crossings hown hK hP 0 rfl rfl 0 (by decide) (hts _ fl_Crossings_9) (fun _ h9 => h9) rfl d_Crossings_add_41 ?_
            refine lv_aload_n hx hb d_Crossings_add_44 rfl (lv_at hl 0 rfl) ?_
            refine va_get (D := D) (ci := 0) (v := .int (nI k)) (C := R_Crossings) (T := F_Crossings) (N := 4) hx hb hts uw_Crossings hown hK hP 0 rfl rfl 2 (by decide) (hts _ fl_Crossings_18) (fun _ h9 => h9) rfl d_Crossings_add_45 ?_
            refine lv_iload_n hx hb d_Crossings_add_48 rfl (lv_at hl 1 rfl) ?_
            refine hq_cast (j := k) hx hb hK hP hD hS 1 rfl (by omega) (by omega) (hq_ch_vp (hq_let c19)) d_Crossings_add_49 (fun H locs hP hD hS => ?_)
            have hP : va_P D hq_cl ([hq_o0 h ca cb (nI k) (hq_z cd), hq_ai ca (G 2) 3 (upd cl k x), hq_ai cb (G 2) 3 cr] ++ Z) H := hP
            have hD : va_D A ([hq_o0 h ca cb (nI k) (hq_z cd), hq_ai ca (G 2) 3 (upd cl k x), hq_ai cb (G 2) 3 cr] ++ Z) := hD
            refine lv_aload_n hx hb d_Crossings_add_50 rfl (lv_at hl 0 rfl) ?_
            refine va_get (D := D) (ci := 0) (v := .ref cb) (C := R_Crossings) (T := F_Crossings) (N := 4) hx hb hts uw_Crossings hown hK hP 0 rfl rfl 1 (by decide) (hts _ fl_Crossings_15) (fun _ h9 => h9) rfl d_Crossings_add_51 ?_
            refine lv_aload_n hx hb d_Crossings_add_54 rfl (lv_at hl 0 rfl) ?_
            refine va_get (D := D) (ci := 0) (v := .int (nI k)) (C := R_Crossings) (T := F_Crossings) (N := 4) hx hb hts uw_Crossings hown hK hP 0 rfl rfl 2 (by decide) (hts _ fl_Crossings_18) (fun _ h9 => h9) rfl d_Crossings_add_55 ?_
            refine lv_iload_n hx hb d_Crossings_add_58 rfl (lv_at hl 2 rfl) ?_
            refine hq_cast (j := k) hx hb hK hP hD hS 2 rfl (by omega) (by omega) (hq_ch_vp (hq_let c26)) d_Crossings_add_59 (fun H locs hP hD hS => ?_)
            have hP : va_P D hq_cl ([hq_o0 h ca cb (nI k) (hq_z cd), hq_ai ca (G 2) 3 (upd cl k x), hq_ai cb (G 2) 3 (upd cr k y)] ++ Z) H := hP
            have hD : va_D A ([hq_o0 h ca cb (nI k) (hq_z cd), hq_ai ca (G 2) 3 (upd cl k x), hq_ai cb (G 2) 3 (upd cr k y)] ++ Z) := hD
            refine lv_aload_n hx hb d_Crossings_add_60 rfl (lv_at hl 0 rfl) ?_
            refine lv_dup hx hb d_Crossings_add_61 rfl ?_
            refine va_get (D := D) (ci := 0) (v := .int (nI k)) (C := R_Crossings) (T := F_Crossings) (N := 4) hx hb hts uw_Crossings hown hK hP 0 rfl rfl 2 (by decide) (hts _ fl_Crossings_18) (fun _ h9 => h9) rfl d_Crossings_add_62 ?_
            refine lv_iconst (v := 1) hx hb d_Crossings_add_65 (by decide) ?_
            refine lv_iadd hx hb d_Crossings_add_66 ?_
            refine hq_topi (x' := nI (k + 1)) (nI_add k 1) ?_
            refine va_put (D := D) (ci := 0) (v := .int (nI (k + 1))) (ty := .int) (C := R_Crossings) (T := F_Crossings) (N := 4) hx hb hts uw_Crossings t_Crossings t_Crossings_ok n_Crossings hown hK hP hD hS 0 rfl rfl 2 (by decide) (hts _ fl_Crossings_18) (fun _ h9 => h9) rfl (by decide +kernel) (rfl) (rfl) (Nat.le_of_ble_eq_true rfl) d_Crossings_add_67 (fun H locs hP hD hS => ?_)
            have hP : va_P D hq_cl ([hq_o0 h ca cb (nI (k + 1)) (hq_z cd), hq_ai ca (G 2) 3 (upd cl k x), hq_ai cb (G 2) 3 (upd cr k y)] ++ Z) H := hP
            have hD : va_D A ([hq_o0 h ca cb (nI (k + 1)) (hq_z cd), hq_ai ca (G 2) 3 (upd cl k x), hq_ai cb (G 2) 3 (upd cr k y)] ++ Z) := hD
            refine lv_iconst (v := 1) hx hb d_Crossings_add_70 (by decide) ?_
            have hP : va_P D hq_cl ([hq_o0 h ca cb (nI (f_Crossings_add_o1 cl cr k cd x y)) (hq_z cd), hq_ai ca (G 2) 3 (f_Crossings_add_o2 cl cr k cd x y), hq_ai cb (G 2) 3 (f_Crossings_add_o3 cl cr k cd x y)] ++ Z) H := by rw [show nI (f_Crossings_add_o1 cl cr k cd x y) = nI (k + 1) by (rw [f_Crossings_add_o1, if_neg c4, if_neg c12, if_pos c19, if_pos c26, if_neg c35] <;> rfl), show f_Crossings_add_o2 cl cr k cd x y = upd cl k x by (rw [f_Crossings_add_o2, if_neg c4, if_neg c12, if_pos c19, if_pos c26, if_neg c35] <;> rfl), show f_Crossings_add_o3 cl cr k cd x y = upd cr k y by (rw [f_Crossings_add_o3, if_neg c4, if_neg c12, if_pos c19, if_pos c26, if_neg c35] <;> rfl)]; exact hP
            have hD : va_D A ([hq_o0 h ca cb (nI (f_Crossings_add_o1 cl cr k cd x y)) (hq_z cd), hq_ai ca (G 2) 3 (f_Crossings_add_o2 cl cr k cd x y), hq_ai cb (G 2) 3 (f_Crossings_add_o3 cl cr k cd x y)] ++ Z) := by rw [show nI (f_Crossings_add_o1 cl cr k cd x y) = nI (k + 1) by (rw [f_Crossings_add_o1, if_neg c4, if_neg c12, if_pos c19, if_pos c26, if_neg c35] <;> rfl), show f_Crossings_add_o2 cl cr k cd x y = upd cl k x by (rw [f_Crossings_add_o2, if_neg c4, if_neg c12, if_pos c19, if_pos c26, if_neg c35] <;> rfl), show f_Crossings_add_o3 cl cr k cd x y = upd cr k y by (rw [f_Crossings_add_o3, if_neg c4, if_neg c12, if_pos c19, if_pos c26, if_neg c35] <;> rfl)]; exact hD
            exact hret 1 () H locs 71 ls d_Crossings_add_71 (by rw [f_Crossings_add, if_neg c4, if_neg c12, if_pos c19, if_pos c26, if_neg c35] <;> rfl) hP hD hS
          · -- 35 not taken
            have c35 : (hq_hasP cl cr x y 0 k) = true := hq_zn.mp c35
            refine lv_iconst (v := 0) hx hb d_Crossings_add_38 (by decide) ?_
            have hP : va_P D hq_cl ([hq_o0 h ca cb (nI (f_Crossings_add_o1 cl cr k cd x y)) (hq_z cd), hq_ai ca (G 2) 3 (f_Crossings_add_o2 cl cr k cd x y), hq_ai cb (G 2) 3 (f_Crossings_add_o3 cl cr k cd x y)] ++ Z) H := by rw [show nI (f_Crossings_add_o1 cl cr k cd x y) = nI k by (rw [f_Crossings_add_o1, if_neg c4, if_neg c12, if_pos c19, if_pos c26, if_pos c35] <;> rfl), show f_Crossings_add_o2 cl cr k cd x y = cl by (rw [f_Crossings_add_o2, if_neg c4, if_neg c12, if_pos c19, if_pos c26, if_pos c35] <;> rfl), show f_Crossings_add_o3 cl cr k cd x y = cr by (rw [f_Crossings_add_o3, if_neg c4, if_neg c12, if_pos c19, if_pos c26, if_pos c35] <;> rfl)]; exact hP
            have hD : va_D A ([hq_o0 h ca cb (nI (f_Crossings_add_o1 cl cr k cd x y)) (hq_z cd), hq_ai ca (G 2) 3 (f_Crossings_add_o2 cl cr k cd x y), hq_ai cb (G 2) 3 (f_Crossings_add_o3 cl cr k cd x y)] ++ Z) := by rw [show nI (f_Crossings_add_o1 cl cr k cd x y) = nI k by (rw [f_Crossings_add_o1, if_neg c4, if_neg c12, if_pos c19, if_pos c26, if_pos c35] <;> rfl), show f_Crossings_add_o2 cl cr k cd x y = cl by (rw [f_Crossings_add_o2, if_neg c4, if_neg c12, if_pos c19, if_pos c26, if_pos c35] <;> rfl), show f_Crossings_add_o3 cl cr k cd x y = cr by (rw [f_Crossings_add_o3, if_neg c4, if_neg c12, if_pos c19, if_pos c26, if_pos c35] <;> rfl)]; exact hD
            exact hret 0 () H locs 39 ls d_Crossings_add_39 (by rw [f_Crossings_add, if_neg c4, if_neg c12, if_pos c19, if_pos c26, if_pos c35] <;> rfl) hP hD hS
theorem d_Terms_add_0 : decode b_Terms_add 0 = .ok (.aload_n 0, 1) := by decide +kernel
theorem d_Terms_add_1 : decode b_Terms_add 1 = .ok (.getfield 18, 3) := by decide +kernel
theorem d_Terms_add_4 : decode b_Terms_add 4 = .ok (.sipush (247), 3) := by decide +kernel
theorem d_Terms_add_7 : decode b_Terms_add 7 = .ok (.if_icmp .ge (33), 3) := by decide +kernel
theorem d_Terms_add_10 : decode b_Terms_add 10 = .ok (.aload_n 0, 1) := by decide +kernel
theorem d_Terms_add_11 : decode b_Terms_add 11 = .ok (.getfield 9, 3) := by decide +kernel
theorem d_Terms_add_14 : decode b_Terms_add 14 = .ok (.aload_n 0, 1) := by decide +kernel
theorem d_Terms_add_15 : decode b_Terms_add 15 = .ok (.getfield 18, 3) := by decide +kernel
theorem d_Terms_add_18 : decode b_Terms_add 18 = .ok (.iload_n 1, 1) := by decide +kernel
theorem d_Terms_add_19 : decode b_Terms_add 19 = .ok (.iastore, 1) := by decide +kernel
theorem d_Terms_add_20 : decode b_Terms_add 20 = .ok (.aload_n 0, 1) := by decide +kernel
theorem d_Terms_add_21 : decode b_Terms_add 21 = .ok (.getfield 15, 3) := by decide +kernel
theorem d_Terms_add_24 : decode b_Terms_add 24 = .ok (.aload_n 0, 1) := by decide +kernel
theorem d_Terms_add_25 : decode b_Terms_add 25 = .ok (.getfield 18, 3) := by decide +kernel
theorem d_Terms_add_28 : decode b_Terms_add 28 = .ok (.iload_n 2, 1) := by decide +kernel
theorem d_Terms_add_29 : decode b_Terms_add 29 = .ok (.iastore, 1) := by decide +kernel
theorem d_Terms_add_30 : decode b_Terms_add 30 = .ok (.aload_n 0, 1) := by decide +kernel
theorem d_Terms_add_31 : decode b_Terms_add 31 = .ok (.dup, 1) := by decide +kernel
theorem d_Terms_add_32 : decode b_Terms_add 32 = .ok (.getfield 18, 3) := by decide +kernel
theorem d_Terms_add_35 : decode b_Terms_add 35 = .ok (.iconst 1, 1) := by decide +kernel
theorem d_Terms_add_36 : decode b_Terms_add 36 = .ok (.iadd, 1) := by decide +kernel
theorem d_Terms_add_37 : decode b_Terms_add 37 = .ok (.putfield 18, 3) := by decide +kernel
theorem d_Terms_add_40 : decode b_Terms_add 40 = .ok (.return_, 1) := by decide +kernel
set_option maxHeartbeats 4000000 in
set_option maxRecDepth 100000 in
theorem c_Terms_add (l : Launch) (D : va_G) (G : Nat → ClassId) (A : Nat → Prop) (Z : va_W) (h : Nat) (ha : Nat) (hv : Nat) (th : Nat → Int32) (tv : Nat → Int32) (q : Nat) (x : Int32) (y : Int32) (hq : q < 247) : hq_FV l D G A y_Terms_add b_Terms_add 3 0 [.ref h, .int x, .int y] ([hq_o6 h ha hv (nI q), hq_ai ha (G 0) 247 th, hq_ai hv (G 0) 247 tv] ++ Z) ([hq_o6 h ha hv (nI (q + 1)), hq_ai ha (G 0) 247 (upd th q x), hq_ai hv (G 0) 247 (upd tv q y)] ++ Z) := by
  refine hq_bV (by decide) (Nat.le_of_ble_eq_true rfl) ?_
  intro p e s m args below meth c Q hx hb hml hts hown hA hK hN hin hret ls H locs hl hP hD hS
  have hown : s.vm.findClass "HashedLearner$Terms" = some m.cls := hown
  have hl : lv_has ls 3 [(0, .ref h), (1, .int x), (2, .int y)] := hl
  refine lv_aload_n hx hb d_Terms_add_0 rfl (lv_at hl 0 rfl) ?_
  refine va_get (D := D) (ci := 6) (v := .int (nI q)) (C := R_Terms) (T := F_Terms) (N := 3) hx hb hts uw_Terms hown hK hP 0 rfl rfl 2 (by decide) (hts _ fl_Terms_18) (fun _ h9 => h9) rfl d_Terms_add_1 ?_
  refine lv_sipush (v := 247) hx hb d_Terms_add_4 (by decide) ?_
  refine lv_icmp_ge (tgt := 40) hx hb d_Terms_add_7 rfl (fun c7 => ?_) (fun c7 => ?_)
  · -- 7 taken
    have c7 : 247 ≤ q := (nI_leI (a := 247) (b := q) (by omega) (by omega)).mp c7
    exact absurd c7 (by omega)
  · -- 7 not taken
    have c7 : ¬ 247 ≤ q := fun h => c7 ((nI_leI (a := 247) (b := q) (by omega) (by omega)).mpr h)
    refine lv_aload_n hx hb d_Terms_add_10 rfl (lv_at hl 0 rfl) ?_
    refine va_get (D := D) (ci := 6) (v := .ref ha) (C := R_Terms) (T := F_Terms) (N := 3) hx hb hts uw_Terms hown hK hP 0 rfl rfl 0 (by decide) (hts _ fl_Terms_9) (fun _ h9 => h9) rfl d_Terms_add_11 ?_
    refine lv_aload_n hx hb d_Terms_add_14 rfl (lv_at hl 0 rfl) ?_
    refine va_get (D := D) (ci := 6) (v := .int (nI q)) (C := R_Terms) (T := F_Terms) (N := 3) hx hb hts uw_Terms hown hK hP 0 rfl rfl 2 (by decide) (hts _ fl_Terms_18) (fun _ h9 => h9) rfl d_Terms_add_15 ?_
    refine lv_iload_n hx hb d_Terms_add_18 rfl (lv_at hl 1 rfl) ?_
    refine hq_iast (j := q) hx hb hK hP hD hS 1 rfl (by omega) (by omega) d_Terms_add_19 (fun H locs hP hD hS => ?_)
    have hP : va_P D hq_cl ([hq_o6 h ha hv (nI q), hq_ai ha (G 0) 247 (upd th q x), hq_ai hv (G 0) 247 tv] ++ Z) H := hP
    have hD : va_D A ([hq_o6 h ha hv (nI q), hq_ai ha (G 0) 247 (upd th q x), hq_ai hv (G 0) 247 tv] ++ Z) := hD
    refine lv_aload_n hx hb d_Terms_add_20 rfl (lv_at hl 0 rfl) ?_
    refine va_get (D := D) (ci := 6) (v := .ref hv) (C := R_Terms) (T := F_Terms) (N := 3) hx hb hts uw_Terms hown hK hP 0 rfl rfl 1 (by decide) (hts _ fl_Terms_15) (fun _ h9 => h9) rfl d_Terms_add_21 ?_
    refine lv_aload_n hx hb d_Terms_add_24 rfl (lv_at hl 0 rfl) ?_
    refine va_get (D := D) (ci := 6) (v := .int (nI q)) (C := R_Terms) (T := F_Terms) (N := 3) hx hb hts uw_Terms hown hK hP 0 rfl rfl 2 (by decide) (hts _ fl_Terms_18) (fun _ h9 => h9) rfl d_Terms_add_25 ?_
    refine lv_iload_n hx hb d_Terms_add_28 rfl (lv_at hl 2 rfl) ?_
    refine hq_iast (j := q) hx hb hK hP hD hS 2 rfl (by omega) (by omega) d_Terms_add_29 (fun H locs hP hD hS => ?_)
    have hP : va_P D hq_cl ([hq_o6 h ha hv (nI q), hq_ai ha (G 0) 247 (upd th q x), hq_ai hv (G 0) 247 (upd tv q y)] ++ Z) H := hP
    have hD : va_D A ([hq_o6 h ha hv (nI q), hq_ai ha (G 0) 247 (upd th q x), hq_ai hv (G 0) 247 (upd tv q y)] ++ Z) := hD
    refine lv_aload_n hx hb d_Terms_add_30 rfl (lv_at hl 0 rfl) ?_
    refine lv_dup hx hb d_Terms_add_31 rfl ?_
    refine va_get (D := D) (ci := 6) (v := .int (nI q)) (C := R_Terms) (T := F_Terms) (N := 3) hx hb hts uw_Terms hown hK hP 0 rfl rfl 2 (by decide) (hts _ fl_Terms_18) (fun _ h9 => h9) rfl d_Terms_add_32 ?_
    refine lv_iconst (v := 1) hx hb d_Terms_add_35 (by decide) ?_
    refine lv_iadd hx hb d_Terms_add_36 ?_
    refine hq_topi (x' := nI (q + 1)) (nI_add q 1) ?_
    refine va_put (D := D) (ci := 6) (v := .int (nI (q + 1))) (ty := .int) (C := R_Terms) (T := F_Terms) (N := 3) hx hb hts uw_Terms t_Terms t_Terms_ok n_Terms hown hK hP hD hS 0 rfl rfl 2 (by decide) (hts _ fl_Terms_18) (fun _ h9 => h9) rfl (by decide +kernel) (rfl) (rfl) (Nat.le_of_ble_eq_true rfl) d_Terms_add_37 (fun H locs hP hD hS => ?_)
    have hP : va_P D hq_cl ([hq_o6 h ha hv (nI (q + 1)), hq_ai ha (G 0) 247 (upd th q x), hq_ai hv (G 0) 247 (upd tv q y)] ++ Z) H := hP
    have hD : va_D A ([hq_o6 h ha hv (nI (q + 1)), hq_ai ha (G 0) 247 (upd th q x), hq_ai hv (G 0) 247 (upd tv q y)] ++ Z) := hD
    exact hret () H locs 40 ls d_Terms_add_40 (trivial) hP hD hS
theorem d_Table_has_0 : decode b_Table_has 0 = .ok (.iload_n 1, 1) := by decide +kernel
theorem d_Table_has_1 : decode b_Table_has 1 = .ok (.ifCond .lt (16), 3) := by decide +kernel
theorem d_Table_has_4 : decode b_Table_has 4 = .ok (.iload_n 1, 1) := by decide +kernel
theorem d_Table_has_5 : decode b_Table_has 5 = .ok (.aload_n 0, 1) := by decide +kernel
theorem d_Table_has_6 : decode b_Table_has 6 = .ok (.getfield 9, 3) := by decide +kernel
theorem d_Table_has_9 : decode b_Table_has 9 = .ok (.arraylength, 1) := by decide +kernel
theorem d_Table_has_10 : decode b_Table_has 10 = .ok (.if_icmp .ge (7), 3) := by decide +kernel
theorem d_Table_has_13 : decode b_Table_has 13 = .ok (.iconst 1, 1) := by decide +kernel
theorem d_Table_has_14 : decode b_Table_has 14 = .ok (.goto (4), 3) := by decide +kernel
theorem d_Table_has_17 : decode b_Table_has 17 = .ok (.iconst 0, 1) := by decide +kernel
theorem d_Table_has_18 : decode b_Table_has 18 = .ok (.ireturn, 1) := by decide +kernel
def f_Table_has (n : Nat) (x : Int32) : Bool := if x < 0 then false else if (nI n) ≤ x then false else true
set_option maxHeartbeats 4000000 in
set_option maxRecDepth 100000 in
theorem c_Table_has (l : Launch) (D : va_G) (G : Nat → ClassId) (A : Nat → Prop) (Z : va_W) (h : Nat) (wa : Nat) (sa : Nat) (ca : Nat) (n : Nat) (wt : Nat → Int32) (su : Nat → Int64) (sc : Nat → Int64) (ru : Int32) (x : Int32) : hq_FI l D G A y_Table_has b_Table_has 2 .boolean 0 [.ref h, .int x] ([hq_o4 h wa sa ca ru, hq_ai wa (G 0) n wt, hq_al sa (G 1) n su, hq_al ca (G 1) n sc] ++ Z) (hq_z (f_Table_has n x)) ([hq_o4 h wa sa ca ru, hq_ai wa (G 0) n wt, hq_al sa (G 1) n su, hq_al ca (G 1) n sc] ++ Z) := by
  refine hq_bI (by decide) (Nat.le_of_ble_eq_true rfl) (fun r u h => by rw [h]; exact hq_znar _) ?_
  intro p e s m args below meth c Q hx hb hml hts hown hA hK hN hret ls H locs hl hP hD hS
  have hown : s.vm.findClass "HashedLearner$Table" = some m.cls := hown
  have hl : lv_has ls 2 [(0, .ref h), (1, .int x)] := hl
  refine lv_iload_n hx hb d_Table_has_0 rfl (lv_at hl 1 rfl) ?_
  refine lv_if_lt (tgt := 17) hx hb d_Table_has_1 rfl (fun c1 => ?_) (fun c1 => ?_)
  · -- 1 taken
    have c1 : x < 0 := c1
    refine lv_iconst (v := 0) hx hb d_Table_has_17 (by decide) ?_
    exact hret 0 () H locs 18 ls d_Table_has_18 (by rw [f_Table_has, if_pos c1] <;> rfl) hP hD hS
  · -- 1 not taken
    have c1 : ¬ x < 0 := c1
    refine lv_iload_n hx hb d_Table_has_4 rfl (lv_at hl 1 rfl) ?_
    refine lv_aload_n hx hb d_Table_has_5 rfl (lv_at hl 0 rfl) ?_
    refine va_get (D := D) (ci := 4) (v := .ref wa) (C := R_Table) (T := F_Table) (N := 4) hx hb hts uw_Table hown hK hP 0 rfl rfl 0 (by decide) (hts _ fl_Table_9) (fun _ h9 => h9) rfl d_Table_has_6 ?_
    refine va_alen (v := nI n) hx hb hK hP 1 0 rfl rfl rfl d_Table_has_9 ?_
    refine lv_icmp_ge (tgt := 17) hx hb d_Table_has_10 rfl (fun c10 => ?_) (fun c10 => ?_)
    · -- 10 taken
      have c10 : (nI n) ≤ x := c10
      refine lv_iconst (v := 0) hx hb d_Table_has_17 (by decide) ?_
      exact hret 0 () H locs 18 ls d_Table_has_18 (by rw [f_Table_has, if_neg c1, if_pos c10] <;> rfl) hP hD hS
    · -- 10 not taken
      have c10 : ¬ (nI n) ≤ x := c10
      refine lv_iconst (v := 1) hx hb d_Table_has_13 (by decide) ?_
      refine lv_goto (tgt := 18) hx hb d_Table_has_14 rfl ?_
      exact hret 1 () H locs 18 ls d_Table_has_18 (by rw [f_Table_has, if_neg c1, if_neg c10] <;> rfl) hP hD hS
theorem d_Table_slotOf_0 : decode b_Table_slotOf 0 = .ok (.iload_n 1, 1) := by decide +kernel
theorem d_Table_slotOf_1 : decode b_Table_slotOf 1 = .ok (.aload_n 0, 1) := by decide +kernel
theorem d_Table_slotOf_2 : decode b_Table_slotOf 2 = .ok (.getfield 9, 3) := by decide +kernel
theorem d_Table_slotOf_5 : decode b_Table_slotOf 5 = .ok (.arraylength, 1) := by decide +kernel
theorem d_Table_slotOf_6 : decode b_Table_slotOf 6 = .ok (.iconst 1, 1) := by decide +kernel
theorem d_Table_slotOf_7 : decode b_Table_slotOf 7 = .ok (.isub, 1) := by decide +kernel
theorem d_Table_slotOf_8 : decode b_Table_slotOf 8 = .ok (.iand, 1) := by decide +kernel
theorem d_Table_slotOf_9 : decode b_Table_slotOf 9 = .ok (.ireturn, 1) := by decide +kernel
set_option maxHeartbeats 4000000 in
set_option maxRecDepth 100000 in
theorem c_Table_slotOf (l : Launch) (D : va_G) (G : Nat → ClassId) (A : Nat → Prop) (Z : va_W) (h : Nat) (wa : Nat) (sa : Nat) (ca : Nat) (n : Nat) (wt : Nat → Int32) (su : Nat → Int64) (sc : Nat → Int64) (ru : Int32) (x : Int32) (hn : hq_pow n) : hq_FI l D G A y_Table_slotOf b_Table_slotOf 2 .int 0 [.ref h, .int x] ([hq_o4 h wa sa ca ru, hq_ai wa (G 0) n wt, hq_al sa (G 1) n su, hq_al ca (G 1) n sc] ++ Z) (nI (hq_slot n x)) ([hq_o4 h wa sa ca ru, hq_ai wa (G 0) n wt, hq_al sa (G 1) n su, hq_al ca (G 1) n sc] ++ Z) := by
  refine hq_bI (by decide) (Nat.le_of_ble_eq_true rfl) (fun _ _ _ => rfl) ?_
  intro p e s m args below meth c Q hx hb hml hts hown hA hK hN hret ls H locs hl hP hD hS
  have hown : s.vm.findClass "HashedLearner$Table" = some m.cls := hown
  have hl : lv_has ls 2 [(0, .ref h), (1, .int x)] := hl
  refine lv_iload_n hx hb d_Table_slotOf_0 rfl (lv_at hl 1 rfl) ?_
  refine lv_aload_n hx hb d_Table_slotOf_1 rfl (lv_at hl 0 rfl) ?_
  refine va_get (D := D) (ci := 4) (v := .ref wa) (C := R_Table) (T := F_Table) (N := 4) hx hb hts uw_Table hown hK hP 0 rfl rfl 0 (by decide) (hts _ fl_Table_9) (fun _ h9 => h9) rfl d_Table_slotOf_2 ?_
  refine va_alen (v := nI n) hx hb hK hP 1 0 rfl rfl rfl d_Table_slotOf_5 ?_
  refine lv_iconst (v := 1) hx hb d_Table_slotOf_6 (by decide) ?_
  refine lv_isub hx hb d_Table_slotOf_7 ?_
  refine lv_iand hx hb d_Table_slotOf_8 ?_
  refine hq_topi (x' := nI (hq_slot n x)) (hq_slot_and hn x) ?_
  exact hret (nI (hq_slot n x)) () H locs 9 ls d_Table_slotOf_9 (rfl) hP hD hS
