theorem d_Table_moveByRule0_0 : decode b_Table_moveByRule0 0 = .ok (.iload_n 2, 1) := by decide +kernel
theorem d_Table_moveByRule0_1 : decode b_Table_moveByRule0 1 = .ok (.ifCond .ne (4), 3) := by decide +kernel
theorem d_Table_moveByRule0_4 : decode b_Table_moveByRule0 4 = .ok (.return_, 1) := by decide +kernel
theorem d_Table_moveByRule0_5 : decode b_Table_moveByRule0 5 = .ok (.iload_n 2, 1) := by decide +kernel
theorem d_Table_moveByRule0_6 : decode b_Table_moveByRule0 6 = .ok (.invokestatic 65, 3) := by decide +kernel
theorem d_Table_moveByRule0_9 : decode b_Table_moveByRule0 9 = .ok (.i2l, 1) := by decide +kernel
theorem d_Table_moveByRule0_10 : decode b_Table_moveByRule0 10 = .ok (.lstore 5, 2) := by decide +kernel
theorem d_Table_moveByRule0_12 : decode b_Table_moveByRule0 12 = .ok (.lload 5, 2) := by decide +kernel
theorem d_Table_moveByRule0_14 : decode b_Table_moveByRule0 14 = .ok (.aload_n 0, 1) := by decide +kernel
theorem d_Table_moveByRule0_15 : decode b_Table_moveByRule0 15 = .ok (.getfield 19, 3) := by decide +kernel
theorem d_Table_moveByRule0_18 : decode b_Table_moveByRule0 18 = .ok (.iload_n 1, 1) := by decide +kernel
theorem d_Table_moveByRule0_19 : decode b_Table_moveByRule0 19 = .ok (.laload, 1) := by decide +kernel
theorem d_Table_moveByRule0_20 : decode b_Table_moveByRule0 20 = .ok (.lcmp, 1) := by decide +kernel
theorem d_Table_moveByRule0_21 : decode b_Table_moveByRule0 21 = .ok (.ifCond .le (35), 3) := by decide +kernel
theorem d_Table_moveByRule0_24 : decode b_Table_moveByRule0 24 = .ok (.aload_n 0, 1) := by decide +kernel
theorem d_Table_moveByRule0_25 : decode b_Table_moveByRule0 25 = .ok (.getfield 9, 3) := by decide +kernel
theorem d_Table_moveByRule0_28 : decode b_Table_moveByRule0 28 = .ok (.iload_n 1, 1) := by decide +kernel
theorem d_Table_moveByRule0_29 : decode b_Table_moveByRule0 29 = .ok (.aload_n 0, 1) := by decide +kernel
theorem d_Table_moveByRule0_30 : decode b_Table_moveByRule0 30 = .ok (.getfield 9, 3) := by decide +kernel
theorem d_Table_moveByRule0_33 : decode b_Table_moveByRule0 33 = .ok (.iload_n 1, 1) := by decide +kernel
theorem d_Table_moveByRule0_34 : decode b_Table_moveByRule0 34 = .ok (.iaload, 1) := by decide +kernel
theorem d_Table_moveByRule0_35 : decode b_Table_moveByRule0 35 = .ok (.i2l, 1) := by decide +kernel
theorem d_Table_moveByRule0_36 : decode b_Table_moveByRule0 36 = .ok (.aload_n 0, 1) := by decide +kernel
theorem d_Table_moveByRule0_37 : decode b_Table_moveByRule0 37 = .ok (.getfield 19, 3) := by decide +kernel
theorem d_Table_moveByRule0_40 : decode b_Table_moveByRule0 40 = .ok (.iload_n 1, 1) := by decide +kernel
theorem d_Table_moveByRule0_41 : decode b_Table_moveByRule0 41 = .ok (.laload, 1) := by decide +kernel
theorem d_Table_moveByRule0_42 : decode b_Table_moveByRule0 42 = .ok (.lmul, 1) := by decide +kernel
theorem d_Table_moveByRule0_43 : decode b_Table_moveByRule0 43 = .ok (.lload 5, 2) := by decide +kernel
theorem d_Table_moveByRule0_45 : decode b_Table_moveByRule0 45 = .ok (.ldiv, 1) := by decide +kernel
theorem d_Table_moveByRule0_46 : decode b_Table_moveByRule0 46 = .ok (.l2i, 1) := by decide +kernel
theorem d_Table_moveByRule0_47 : decode b_Table_moveByRule0 47 = .ok (.iastore, 1) := by decide +kernel
theorem d_Table_moveByRule0_48 : decode b_Table_moveByRule0 48 = .ok (.aload_n 0, 1) := by decide +kernel
theorem d_Table_moveByRule0_49 : decode b_Table_moveByRule0 49 = .ok (.getfield 19, 3) := by decide +kernel
theorem d_Table_moveByRule0_52 : decode b_Table_moveByRule0 52 = .ok (.iload_n 1, 1) := by decide +kernel
theorem d_Table_moveByRule0_53 : decode b_Table_moveByRule0 53 = .ok (.lload 5, 2) := by decide +kernel
theorem d_Table_moveByRule0_55 : decode b_Table_moveByRule0 55 = .ok (.lastore, 1) := by decide +kernel
theorem d_Table_moveByRule0_56 : decode b_Table_moveByRule0 56 = .ok (.aload_n 0, 1) := by decide +kernel
theorem d_Table_moveByRule0_57 : decode b_Table_moveByRule0 57 = .ok (.getfield 15, 3) := by decide +kernel
theorem d_Table_moveByRule0_60 : decode b_Table_moveByRule0 60 = .ok (.iload_n 1, 1) := by decide +kernel
theorem d_Table_moveByRule0_61 : decode b_Table_moveByRule0 61 = .ok (.aload_n 0, 1) := by decide +kernel
theorem d_Table_moveByRule0_62 : decode b_Table_moveByRule0 62 = .ok (.getfield 15, 3) := by decide +kernel
theorem d_Table_moveByRule0_65 : decode b_Table_moveByRule0 65 = .ok (.iload_n 1, 1) := by decide +kernel
theorem d_Table_moveByRule0_66 : decode b_Table_moveByRule0 66 = .ok (.laload, 1) := by decide +kernel
theorem d_Table_moveByRule0_67 : decode b_Table_moveByRule0 67 = .ok (.lload_n 3, 1) := by decide +kernel
theorem d_Table_moveByRule0_68 : decode b_Table_moveByRule0 68 = .ok (.lload_n 3, 1) := by decide +kernel
theorem d_Table_moveByRule0_69 : decode b_Table_moveByRule0 69 = .ok (.lmul, 1) := by decide +kernel
theorem d_Table_moveByRule0_70 : decode b_Table_moveByRule0 70 = .ok (.ladd, 1) := by decide +kernel
theorem d_Table_moveByRule0_71 : decode b_Table_moveByRule0 71 = .ok (.ldc2_w 70, 3) := by decide +kernel
theorem d_Table_moveByRule0_74 : decode b_Table_moveByRule0 74 = .ok (.invokestatic 51, 3) := by decide +kernel
theorem d_Table_moveByRule0_77 : decode b_Table_moveByRule0 77 = .ok (.lastore, 1) := by decide +kernel
theorem d_Table_moveByRule0_78 : decode b_Table_moveByRule0 78 = .ok (.ldc2_w 72, 3) := by decide +kernel
theorem d_Table_moveByRule0_81 : decode b_Table_moveByRule0 81 = .ok (.lload_n 3, 1) := by decide +kernel
theorem d_Table_moveByRule0_82 : decode b_Table_moveByRule0 82 = .ok (.lmul, 1) := by decide +kernel
theorem d_Table_moveByRule0_83 : decode b_Table_moveByRule0 83 = .ok (.lconst 1, 1) := by decide +kernel
theorem d_Table_moveByRule0_84 : decode b_Table_moveByRule0 84 = .ok (.aload_n 0, 1) := by decide +kernel
theorem d_Table_moveByRule0_85 : decode b_Table_moveByRule0 85 = .ok (.getfield 15, 3) := by decide +kernel
theorem d_Table_moveByRule0_88 : decode b_Table_moveByRule0 88 = .ok (.iload_n 1, 1) := by decide +kernel
theorem d_Table_moveByRule0_89 : decode b_Table_moveByRule0 89 = .ok (.laload, 1) := by decide +kernel
theorem d_Table_moveByRule0_90 : decode b_Table_moveByRule0 90 = .ok (.invokestatic 74, 3) := by decide +kernel
theorem d_Table_moveByRule0_93 : decode b_Table_moveByRule0 93 = .ok (.ladd, 1) := by decide +kernel
theorem d_Table_moveByRule0_94 : decode b_Table_moveByRule0 94 = .ok (.aload_n 0, 1) := by decide +kernel
theorem d_Table_moveByRule0_95 : decode b_Table_moveByRule0 95 = .ok (.getfield 19, 3) := by decide +kernel
theorem d_Table_moveByRule0_98 : decode b_Table_moveByRule0 98 = .ok (.iload_n 1, 1) := by decide +kernel
theorem d_Table_moveByRule0_99 : decode b_Table_moveByRule0 99 = .ok (.laload, 1) := by decide +kernel
theorem d_Table_moveByRule0_100 : decode b_Table_moveByRule0 100 = .ok (.lmul, 1) := by decide +kernel
theorem d_Table_moveByRule0_101 : decode b_Table_moveByRule0 101 = .ok (.ldiv, 1) := by decide +kernel
theorem d_Table_moveByRule0_102 : decode b_Table_moveByRule0 102 = .ok (.lstore 7, 2) := by decide +kernel
theorem d_Table_moveByRule0_104 : decode b_Table_moveByRule0 104 = .ok (.aload_n 0, 1) := by decide +kernel
theorem d_Table_moveByRule0_105 : decode b_Table_moveByRule0 105 = .ok (.getfield 9, 3) := by decide +kernel
theorem d_Table_moveByRule0_108 : decode b_Table_moveByRule0 108 = .ok (.iload_n 1, 1) := by decide +kernel
theorem d_Table_moveByRule0_109 : decode b_Table_moveByRule0 109 = .ok (.aload_n 0, 1) := by decide +kernel
theorem d_Table_moveByRule0_110 : decode b_Table_moveByRule0 110 = .ok (.getfield 9, 3) := by decide +kernel
theorem d_Table_moveByRule0_113 : decode b_Table_moveByRule0 113 = .ok (.iload_n 1, 1) := by decide +kernel
theorem d_Table_moveByRule0_114 : decode b_Table_moveByRule0 114 = .ok (.iaload, 1) := by decide +kernel
theorem d_Table_moveByRule0_115 : decode b_Table_moveByRule0 115 = .ok (.i2l, 1) := by decide +kernel
theorem d_Table_moveByRule0_116 : decode b_Table_moveByRule0 116 = .ok (.lload 7, 2) := by decide +kernel
theorem d_Table_moveByRule0_118 : decode b_Table_moveByRule0 118 = .ok (.lsub, 1) := by decide +kernel
theorem d_Table_moveByRule0_119 : decode b_Table_moveByRule0 119 = .ok (.ldc2_w 78, 3) := by decide +kernel
theorem d_Table_moveByRule0_122 : decode b_Table_moveByRule0 122 = .ok (.invokestatic 51, 3) := by decide +kernel
theorem d_Table_moveByRule0_125 : decode b_Table_moveByRule0 125 = .ok (.l2i, 1) := by decide +kernel
theorem d_Table_moveByRule0_126 : decode b_Table_moveByRule0 126 = .ok (.iastore, 1) := by decide +kernel
theorem d_Table_moveByRule0_127 : decode b_Table_moveByRule0 127 = .ok (.return_, 1) := by decide +kernel
set_option maxHeartbeats 4000000 in
set_option maxRecDepth 100000 in
theorem c_Table_moveByRule0 (l : Launch) (D : va_G) (G : Nat → ClassId) (A : Nat → Prop) (Z : va_W) (h : Nat) (wa : Nat) (sa : Nat) (ca : Nat) (n : Nat) (wt : Nat → Int32) (su : Nat → Int64) (sc : Nat → Int64) (ru : Int32) (a : Nat) (x : Int32) (d : Int64) (hn : hq_pow n) (ha : a < n) (hs0 : 0 ≤ (su a).toInt) (hs1 : (su a).toInt ≤ 10000000000000000) (hd0 : -100000000 ≤ d.toInt) (hd1 : d.toInt ≤ 100000000) (hc0 : 0 ≤ (sc a).toInt) (hc1 : (sc a).toInt ≤ 99999) (hx0 : -99999 ≤ x.toInt) (hx1 : x.toInt ≤ 99999) : hq_FV l D G A y_Table_moveByRule0 b_Table_moveByRule0 9 2 [.ref h, .int (nI a), .int x, .long d] ([hq_o4 h wa sa ca ru, hq_ai wa (G 0) n wt, hq_al sa (G 1) n su, hq_al ca (G 1) n sc] ++ Z) ([hq_o4 h wa sa ca ru, hq_ai wa (G 0) n (if x = 0 then wt else upd wt a (hq_c0w (wt a) (su a) (sc a) x d)), hq_al sa (G 1) n (if x = 0 then su else vp_updL su a (hq_s1 (su a) d)), hq_al ca (G 1) n (if x = 0 then sc else vp_updL sc a (hq_c0c (sc a) x))] ++ Z) := by
  refine hq_bV (by decide) (Nat.le_of_ble_eq_true rfl) ?_
  intro p e s m args below meth c Q hx hb hml hts hown hA hK hN hin hret ls H locs hl hP hD hS
  have hown : s.vm.findClass "HashedLearner$Table" = some m.cls := hown
  have hl : lv_has ls 9 [(0, .ref h), (1, .int (nI a)), (2, .int x), (3, .long d)] := hl
  have hn31 := hq_pow_lt hn
  refine lv_iload_n hx hb d_Table_moveByRule0_0 rfl (lv_at hl 2 rfl) ?_
  refine lv_if_ne (tgt := 5) hx hb d_Table_moveByRule0_1 rfl (fun c1 => ?_) (fun c1 => ?_)
  · -- 1 taken
    have c1 : ¬ x = 0 := c1
    refine lv_iload_n hx hb d_Table_moveByRule0_5 rfl (lv_at hl 2 rfl) ?_
    refine va_mabs hx hb (by rw [hml]; exact hl.1.symm) hown (hts _ ma_Table_65) (hts _ ma_s_abs) (hts _ ma_i) (hts _ ma_c_abs) (by decide) (Nat.le_of_ble_eq_true rfl) (by decide) (by decide) d_Table_moveByRule0_6 ?_
    refine lv_i2l (v := Int32.toInt64 (if 0 ≤ x then x else 0 - x)) hx hb d_Table_moveByRule0_9 rfl ?_
    refine hq_topl (x' := hq_m x) (rfl) ?_
    refine lv_lstore (nL := 9) (lv' := [(5, .long (hq_m x)), (0, .ref h), (1, .int (nI a)), (2, .int x), (3, .long d)]) hx hb d_Table_moveByRule0_10 hl (by decide) rfl (fun ls hl => ?_)
    refine lv_lload hx hb d_Table_moveByRule0_12 (lv_at hl 0 rfl) ?_
    refine lv_aload_n hx hb d_Table_moveByRule0_14 rfl (lv_at hl 1 rfl) ?_
    refine va_get (D := D) (ci := 4) (v := .ref ca) (C := R_Table) (T := F_Table) (N := 4) hx hb hts uw_Table hown hK hP 0 rfl rfl 2 (by decide) (hts _ fl_Table_19) (fun _ h9 => h9) rfl d_Table_moveByRule0_15 ?_
    refine lv_iload_n hx hb d_Table_moveByRule0_18 rfl (lv_at hl 2 rfl) ?_
    refine hq_lald (j := a) hx hb hK hP 3 rfl (by omega) (by omega) d_Table_moveByRule0_19 ?_
    refine W.lcmp hx hb d_Table_moveByRule0_20 ?_
    refine lv_if_le (tgt := 56) hx hb d_Table_moveByRule0_21 rfl (fun c21 => ?_) (fun c21 => ?_)
    · -- 21 taken
      have c21 : (hq_m x) ≤ (sc a) := (lg_cmp_le (hq_m x) (sc a)).mp c21
      refine lv_aload_n hx hb d_Table_moveByRule0_56 rfl (lv_at hl 1 rfl) ?_
      refine va_get (D := D) (ci := 4) (v := .ref sa) (C := R_Table) (T := F_Table) (N := 4) hx hb hts uw_Table hown hK hP 0 rfl rfl 1 (by decide) (hts _ fl_Table_15) (fun _ h9 => h9) rfl d_Table_moveByRule0_57 ?_
      refine lv_iload_n hx hb d_Table_moveByRule0_60 rfl (lv_at hl 2 rfl) ?_
      refine lv_aload_n hx hb d_Table_moveByRule0_61 rfl (lv_at hl 1 rfl) ?_
      refine va_get (D := D) (ci := 4) (v := .ref sa) (C := R_Table) (T := F_Table) (N := 4) hx hb hts uw_Table hown hK hP 0 rfl rfl 1 (by decide) (hts _ fl_Table_15) (fun _ h9 => h9) rfl d_Table_moveByRule0_62 ?_
      refine lv_iload_n hx hb d_Table_moveByRule0_65 rfl (lv_at hl 2 rfl) ?_
      refine hq_lald (j := a) hx hb hK hP 2 rfl (by omega) (by omega) d_Table_moveByRule0_66 ?_
      refine lv_lload_n hx hb d_Table_moveByRule0_67 rfl (lv_at hl 4 rfl) ?_
      refine lv_lload_n hx hb d_Table_moveByRule0_68 rfl (lv_at hl 4 rfl) ?_
      refine lv_lmul hx hb d_Table_moveByRule0_69 ?_
      refine lv_ladd hx hb d_Table_moveByRule0_70 ?_
      refine lv_ldc2 (v := 10000000000000000) hx hb hown (hts _ kl_Table_70) d_Table_moveByRule0_71 ?_
      have hPc : va_P D hq_cl ([] ++ ([hq_o4 h wa sa ca ru, hq_ai wa (G 0) n wt, hq_al sa (G 1) n su, hq_al ca (G 1) n sc] ++ Z)) H := hP
      have hDc : va_D A ([] ++ ([hq_o4 h wa sa ca ru, hq_ai wa (G 0) n wt, hq_al sa (G 1) n su, hq_al ca (G 1) n sc] ++ Z)) := hD
      refine hq_lF (hq_rSN (As := [.long ((su a) + (d * d)), .long 10000000000000000]) (rest := [.int (nI a), .ref sa]) hx hb hml hown hts (c_H_clip l D G A ([hq_o4 h wa sa ca ru, hq_ai wa (G 0) n wt, hq_al sa (G 1) n su, hq_al ca (G 1) n sc] ++ Z) ((su a) + (d * d)) 10000000000000000) yy_H_clip lk_Table_51 hA hK hN hS hPc hDc rfl hl.1 rfl (Nat.le_of_ble_eq_true rfl) d_Table_moveByRule0_74 ⟨by decide, by decide⟩ ⟨by decide, by decide⟩) hS (fun H locs hP hD hS => ?_)
      have hP : va_P D hq_cl ([hq_o4 h wa sa ca ru, hq_ai wa (G 0) n wt, hq_al sa (G 1) n su, hq_al ca (G 1) n sc] ++ Z) H := hP
      have hD : va_D A ([hq_o4 h wa sa ca ru, hq_ai wa (G 0) n wt, hq_al sa (G 1) n su, hq_al ca (G 1) n sc] ++ Z) := hD
      refine hq_topl (x' := hq_s1 (su a) d) (rfl) ?_
      refine hq_last (j := a) hx hb hK hP hD hS 2 rfl (by omega) (by omega) d_Table_moveByRule0_77 (fun H locs hP hD hS => ?_)
      have hP : va_P D hq_cl ([hq_o4 h wa sa ca ru, hq_ai wa (G 0) n wt, hq_al sa (G 1) n (vp_updL su a (hq_s1 (su a) d)), hq_al ca (G 1) n sc] ++ Z) H := hP
      have hD : va_D A ([hq_o4 h wa sa ca ru, hq_ai wa (G 0) n wt, hq_al sa (G 1) n (vp_updL su a (hq_s1 (su a) d)), hq_al ca (G 1) n sc] ++ Z) := hD
      refine lv_ldc2 (v := 500000) hx hb hown (hts _ kl_Table_72) d_Table_moveByRule0_78 ?_
      refine lv_lload_n hx hb d_Table_moveByRule0_81 rfl (lv_at hl 4 rfl) ?_
      refine lv_lmul hx hb d_Table_moveByRule0_82 ?_
      refine lv_lconst (v := 1) hx hb d_Table_moveByRule0_83 (by decide) ?_
      refine lv_aload_n hx hb d_Table_moveByRule0_84 rfl (lv_at hl 1 rfl) ?_
      refine va_get (D := D) (ci := 4) (v := .ref sa) (C := R_Table) (T := F_Table) (N := 4) hx hb hts uw_Table hown hK hP 0 rfl rfl 1 (by decide) (hts _ fl_Table_15) (fun _ h9 => h9) rfl d_Table_moveByRule0_85 ?_
      refine lv_iload_n hx hb d_Table_moveByRule0_88 rfl (lv_at hl 2 rfl) ?_
      refine hq_lald (j := a) hx hb hK hP 2 rfl (by omega) (by omega) d_Table_moveByRule0_89 ?_
      refine hq_topl (x' := hq_s1 (su a) d) (pk_uLs) ?_
      have hPc : va_P D hq_cl ([] ++ ([hq_o4 h wa sa ca ru, hq_ai wa (G 0) n wt, hq_al sa (G 1) n (vp_updL su a (hq_s1 (su a) d)), hq_al ca (G 1) n sc] ++ Z)) H := hP
      have hDc : va_D A ([] ++ ([hq_o4 h wa sa ca ru, hq_ai wa (G 0) n wt, hq_al sa (G 1) n (vp_updL su a (hq_s1 (su a) d)), hq_al ca (G 1) n sc] ++ Z)) := hD
      refine hq_lF (hq_rSN (As := [.long (hq_s1 (su a) d)]) (rest := [.long 1, .long (500000 * d)]) hx hb hml hown hts (c_H_root l D G A ([hq_o4 h wa sa ca ru, hq_ai wa (G 0) n wt, hq_al sa (G 1) n (vp_updL su a (hq_s1 (su a) d)), hq_al ca (G 1) n sc] ++ Z) (hq_s1 (su a) d) ((hq_s1_in hs0 hs1 hd0 hd1).1) ((hq_s1_in hs0 hs1 hd0 hd1).2)) yy_H_root lk_Table_74 hA hK hN hS hPc hDc rfl hl.1 rfl (Nat.le_of_ble_eq_true rfl) d_Table_moveByRule0_90 ⟨by decide, by decide⟩ ⟨by decide, by decide⟩) hS (fun H locs hP hD hS => ?_)
      have hP : va_P D hq_cl ([hq_o4 h wa sa ca ru, hq_ai wa (G 0) n wt, hq_al sa (G 1) n (vp_updL su a (hq_s1 (su a) d)), hq_al ca (G 1) n sc] ++ Z) H := hP
      have hD : va_D A ([hq_o4 h wa sa ca ru, hq_ai wa (G 0) n wt, hq_al sa (G 1) n (vp_updL su a (hq_s1 (su a) d)), hq_al ca (G 1) n sc] ++ Z) := hD
      refine lv_ladd hx hb d_Table_moveByRule0_93 ?_
      refine lv_aload_n hx hb d_Table_moveByRule0_94 rfl (lv_at hl 1 rfl) ?_
      refine va_get (D := D) (ci := 4) (v := .ref ca) (C := R_Table) (T := F_Table) (N := 4) hx hb hts uw_Table hown hK hP 0 rfl rfl 2 (by decide) (hts _ fl_Table_19) (fun _ h9 => h9) rfl d_Table_moveByRule0_95 ?_
      refine lv_iload_n hx hb d_Table_moveByRule0_98 rfl (lv_at hl 2 rfl) ?_
      refine hq_lald (j := a) hx hb hK hP 3 rfl (by omega) (by omega) d_Table_moveByRule0_99 ?_
      refine hq_topl (x' := hq_c0c (sc a) x) (by rw [hq_c0c, if_pos c21]) ?_
      refine lv_lmul hx hb d_Table_moveByRule0_100 ?_
      refine lv_ldiv hx hb d_Table_moveByRule0_101 (hq_den_ne (hq_root_in2 (hq_s1_in hs0 hs1 hd0 hd1).2).1 (hq_root_in2 (hq_s1_in hs0 hs1 hd0 hd1).2).2 ((hq_c0c_in hx0 hx1 hc0 hc1).2.2 c1) (hq_c0c_in hx0 hx1 hc0 hc1).2.1) ?_
      refine lv_lstore (nL := 9) (lv' := [(7, .long ((500000 * d) / ((1 + (hq_root (hq_s1 (su a) d))) * (hq_c0c (sc a) x)))), (5, .long (hq_m x)), (0, .ref h), (1, .int (nI a)), (2, .int x), (3, .long d)]) hx hb d_Table_moveByRule0_102 hl (by decide) rfl (fun ls hl => ?_)
      refine lv_aload_n hx hb d_Table_moveByRule0_104 rfl (lv_at hl 2 rfl) ?_
      refine va_get (D := D) (ci := 4) (v := .ref wa) (C := R_Table) (T := F_Table) (N := 4) hx hb hts uw_Table hown hK hP 0 rfl rfl 0 (by decide) (hts _ fl_Table_9) (fun _ h9 => h9) rfl d_Table_moveByRule0_105 ?_
      refine lv_iload_n hx hb d_Table_moveByRule0_108 rfl (lv_at hl 3 rfl) ?_
      refine lv_aload_n hx hb d_Table_moveByRule0_109 rfl (lv_at hl 2 rfl) ?_
      refine va_get (D := D) (ci := 4) (v := .ref wa) (C := R_Table) (T := F_Table) (N := 4) hx hb hts uw_Table hown hK hP 0 rfl rfl 0 (by decide) (hts _ fl_Table_9) (fun _ h9 => h9) rfl d_Table_moveByRule0_110 ?_
      refine lv_iload_n hx hb d_Table_moveByRule0_113 rfl (lv_at hl 3 rfl) ?_
      refine hq_iald (j := a) hx hb hK hP 1 rfl (by omega) (by omega) d_Table_moveByRule0_114 ?_
      refine hq_topi (x' := hq_c0w1 (wt a) (sc a) x) (by rw [hq_c0w1, if_pos c21]) ?_
      refine lv_i2l (v := Int32.toInt64 (hq_c0w1 (wt a) (sc a) x)) hx hb d_Table_moveByRule0_115 rfl ?_
      refine lv_lload hx hb d_Table_moveByRule0_116 (lv_at hl 0 rfl) ?_
      refine lv_lsub hx hb d_Table_moveByRule0_118 ?_
      refine lv_ldc2 (v := 100000000) hx hb hown (hts _ kl_Table_78) d_Table_moveByRule0_119 ?_
      have hPc : va_P D hq_cl ([] ++ ([hq_o4 h wa sa ca ru, hq_ai wa (G 0) n wt, hq_al sa (G 1) n (vp_updL su a (hq_s1 (su a) d)), hq_al ca (G 1) n sc] ++ Z)) H := hP
      have hDc : va_D A ([] ++ ([hq_o4 h wa sa ca ru, hq_ai wa (G 0) n wt, hq_al sa (G 1) n (vp_updL su a (hq_s1 (su a) d)), hq_al ca (G 1) n sc] ++ Z)) := hD
      refine hq_lF (hq_rSN (As := [.long ((Int32.toInt64 (hq_c0w1 (wt a) (sc a) x)) - ((500000 * d) / ((1 + (hq_root (hq_s1 (su a) d))) * (hq_c0c (sc a) x)))), .long 100000000]) (rest := [.int (nI a), .ref wa]) hx hb hml hown hts (c_H_clip l D G A ([hq_o4 h wa sa ca ru, hq_ai wa (G 0) n wt, hq_al sa (G 1) n (vp_updL su a (hq_s1 (su a) d)), hq_al ca (G 1) n sc] ++ Z) ((Int32.toInt64 (hq_c0w1 (wt a) (sc a) x)) - ((500000 * d) / ((1 + (hq_root (hq_s1 (su a) d))) * (hq_c0c (sc a) x)))) 100000000) yy_H_clip lk_Table_51 hA hK hN hS hPc hDc rfl hl.1 rfl (Nat.le_of_ble_eq_true rfl) d_Table_moveByRule0_122 ⟨by decide, by decide⟩ ⟨by decide, by decide⟩) hS (fun H locs hP hD hS => ?_)
      have hP : va_P D hq_cl ([hq_o4 h wa sa ca ru, hq_ai wa (G 0) n wt, hq_al sa (G 1) n (vp_updL su a (hq_s1 (su a) d)), hq_al ca (G 1) n sc] ++ Z) H := hP
      have hD : va_D A ([hq_o4 h wa sa ca ru, hq_ai wa (G 0) n wt, hq_al sa (G 1) n (vp_updL su a (hq_s1 (su a) d)), hq_al ca (G 1) n sc] ++ Z) := hD
      refine lv_l2i (v := Int64.toInt32 (f_H_clip ((Int32.toInt64 (hq_c0w1 (wt a) (sc a) x)) - ((500000 * d) / ((1 + (hq_root (hq_s1 (su a) d))) * (hq_c0c (sc a) x)))) 100000000)) hx hb d_Table_moveByRule0_125 rfl ?_
      refine hq_topi (x' := hq_c0w (wt a) (su a) (sc a) x d) (rfl) ?_
      refine hq_iast (j := a) hx hb hK hP hD hS 1 rfl (by omega) (by omega) d_Table_moveByRule0_126 (fun H locs hP hD hS => ?_)
      have hP : va_P D hq_cl ([hq_o4 h wa sa ca ru, hq_ai wa (G 0) n (upd wt a (hq_c0w (wt a) (su a) (sc a) x d)), hq_al sa (G 1) n (vp_updL su a (hq_s1 (su a) d)), hq_al ca (G 1) n sc] ++ Z) H := hP
      have hD : va_D A ([hq_o4 h wa sa ca ru, hq_ai wa (G 0) n (upd wt a (hq_c0w (wt a) (su a) (sc a) x d)), hq_al sa (G 1) n (vp_updL su a (hq_s1 (su a) d)), hq_al ca (G 1) n sc] ++ Z) := hD
      have e9_0 : (if x = 0 then wt else upd wt a (hq_c0w (wt a) (su a) (sc a) x d)) = (upd wt a (hq_c0w (wt a) (su a) (sc a) x d)) := by first | (rw [if_neg c1]; done) | (rw [if_neg c1, hq_upd2]; done) | (rw [if_neg c1, hq_c0c, if_pos c21, hq_updL_id]; done) | (rw [if_neg c1, hq_c0c, if_neg c21]; done)
      have e9_1 : (if x = 0 then su else vp_updL su a (hq_s1 (su a) d)) = (vp_updL su a (hq_s1 (su a) d)) := by first | (rw [if_neg c1]; done) | (rw [if_neg c1, hq_upd2]; done) | (rw [if_neg c1, hq_c0c, if_pos c21, hq_updL_id]; done) | (rw [if_neg c1, hq_c0c, if_neg c21]; done)
      have e9_2 : (if x = 0 then sc else vp_updL sc a (hq_c0c (sc a) x)) = sc := by first | (rw [if_neg c1]; done) | (rw [if_neg c1, hq_upd2]; done) | (rw [if_neg c1, hq_c0c, if_pos c21, hq_updL_id]; done) | (rw [if_neg c1, hq_c0c, if_neg c21]; done)
      have hP : va_P D hq_cl ([hq_o4 h wa sa ca ru, hq_ai wa (G 0) n (if x = 0 then wt else upd wt a (hq_c0w (wt a) (su a) (sc a) x d)), hq_al sa (G 1) n (if x = 0 then su else vp_updL su a (hq_s1 (su a) d)), hq_al ca (G 1) n (if x = 0 then sc else vp_updL sc a (hq_c0c (sc a) x))] ++ Z) H := by rw [e9_0, e9_1, e9_2]; exact hP
      have hD : va_D A ([hq_o4 h wa sa ca ru, hq_ai wa (G 0) n (if x = 0 then wt else upd wt a (hq_c0w (wt a) (su a) (sc a) x d)), hq_al sa (G 1) n (if x = 0 then su else vp_updL su a (hq_s1 (su a) d)), hq_al ca (G 1) n (if x = 0 then sc else vp_updL sc a (hq_c0c (sc a) x))] ++ Z) := by rw [e9_0, e9_1, e9_2]; exact hD
      exact hret () H locs 127 ls d_Table_moveByRule0_127 (trivial) hP hD hS
    · -- 21 not taken
      have c21 : ¬ (hq_m x) ≤ (sc a) := fun h => c21 ((lg_cmp_le (hq_m x) (sc a)).mpr h)
      refine lv_aload_n hx hb d_Table_moveByRule0_24 rfl (lv_at hl 1 rfl) ?_
      refine va_get (D := D) (ci := 4) (v := .ref wa) (C := R_Table) (T := F_Table) (N := 4) hx hb hts uw_Table hown hK hP 0 rfl rfl 0 (by decide) (hts _ fl_Table_9) (fun _ h9 => h9) rfl d_Table_moveByRule0_25 ?_
      refine lv_iload_n hx hb d_Table_moveByRule0_28 rfl (lv_at hl 2 rfl) ?_
      refine lv_aload_n hx hb d_Table_moveByRule0_29 rfl (lv_at hl 1 rfl) ?_
      refine va_get (D := D) (ci := 4) (v := .ref wa) (C := R_Table) (T := F_Table) (N := 4) hx hb hts uw_Table hown hK hP 0 rfl rfl 0 (by decide) (hts _ fl_Table_9) (fun _ h9 => h9) rfl d_Table_moveByRule0_30 ?_
      refine lv_iload_n hx hb d_Table_moveByRule0_33 rfl (lv_at hl 2 rfl) ?_
      refine hq_iald (j := a) hx hb hK hP 1 rfl (by omega) (by omega) d_Table_moveByRule0_34 ?_
      refine lv_i2l (v := Int32.toInt64 (wt a)) hx hb d_Table_moveByRule0_35 rfl ?_
      refine lv_aload_n hx hb d_Table_moveByRule0_36 rfl (lv_at hl 1 rfl) ?_
      refine va_get (D := D) (ci := 4) (v := .ref ca) (C := R_Table) (T := F_Table) (N := 4) hx hb hts uw_Table hown hK hP 0 rfl rfl 2 (by decide) (hts _ fl_Table_19) (fun _ h9 => h9) rfl d_Table_moveByRule0_37 ?_
      refine lv_iload_n hx hb d_Table_moveByRule0_40 rfl (lv_at hl 2 rfl) ?_
      refine hq_lald (j := a) hx hb hK hP 3 rfl (by omega) (by omega) d_Table_moveByRule0_41 ?_
      refine lv_lmul hx hb d_Table_moveByRule0_42 ?_
      refine lv_lload hx hb d_Table_moveByRule0_43 (lv_at hl 0 rfl) ?_
      refine lv_ldiv hx hb d_Table_moveByRule0_45 (hq_m_ne hx0 hx1 c1) ?_
      refine lv_l2i (v := Int64.toInt32 (((Int32.toInt64 (wt a)) * (sc a)) / (hq_m x))) hx hb d_Table_moveByRule0_46 rfl ?_
      refine hq_iast (j := a) hx hb hK hP hD hS 1 rfl (by omega) (by omega) d_Table_moveByRule0_47 (fun H locs hP hD hS => ?_)
      have hP : va_P D hq_cl ([hq_o4 h wa sa ca ru, hq_ai wa (G 0) n (upd wt a (Int64.toInt32 (((Int32.toInt64 (wt a)) * (sc a)) / (hq_m x)))), hq_al sa (G 1) n su, hq_al ca (G 1) n sc] ++ Z) H := hP
      have hD : va_D A ([hq_o4 h wa sa ca ru, hq_ai wa (G 0) n (upd wt a (Int64.toInt32 (((Int32.toInt64 (wt a)) * (sc a)) / (hq_m x)))), hq_al sa (G 1) n su, hq_al ca (G 1) n sc] ++ Z) := hD
      refine lv_aload_n hx hb d_Table_moveByRule0_48 rfl (lv_at hl 1 rfl) ?_
      refine va_get (D := D) (ci := 4) (v := .ref ca) (C := R_Table) (T := F_Table) (N := 4) hx hb hts uw_Table hown hK hP 0 rfl rfl 2 (by decide) (hts _ fl_Table_19) (fun _ h9 => h9) rfl d_Table_moveByRule0_49 ?_
      refine lv_iload_n hx hb d_Table_moveByRule0_52 rfl (lv_at hl 2 rfl) ?_
      refine lv_lload hx hb d_Table_moveByRule0_53 (lv_at hl 0 rfl) ?_
      refine hq_last (j := a) hx hb hK hP hD hS 3 rfl (by omega) (by omega) d_Table_moveByRule0_55 (fun H locs hP hD hS => ?_)
      have hP : va_P D hq_cl ([hq_o4 h wa sa ca ru, hq_ai wa (G 0) n (upd wt a (Int64.toInt32 (((Int32.toInt64 (wt a)) * (sc a)) / (hq_m x)))), hq_al sa (G 1) n su, hq_al ca (G 1) n (vp_updL sc a (hq_m x))] ++ Z) H := hP
      have hD : va_D A ([hq_o4 h wa sa ca ru, hq_ai wa (G 0) n (upd wt a (Int64.toInt32 (((Int32.toInt64 (wt a)) * (sc a)) / (hq_m x)))), hq_al sa (G 1) n su, hq_al ca (G 1) n (vp_updL sc a (hq_m x))] ++ Z) := hD
      refine lv_aload_n hx hb d_Table_moveByRule0_56 rfl (lv_at hl 1 rfl) ?_
      refine va_get (D := D) (ci := 4) (v := .ref sa) (C := R_Table) (T := F_Table) (N := 4) hx hb hts uw_Table hown hK hP 0 rfl rfl 1 (by decide) (hts _ fl_Table_15) (fun _ h9 => h9) rfl d_Table_moveByRule0_57 ?_
      refine lv_iload_n hx hb d_Table_moveByRule0_60 rfl (lv_at hl 2 rfl) ?_
      refine lv_aload_n hx hb d_Table_moveByRule0_61 rfl (lv_at hl 1 rfl) ?_
      refine va_get (D := D) (ci := 4) (v := .ref sa) (C := R_Table) (T := F_Table) (N := 4) hx hb hts uw_Table hown hK hP 0 rfl rfl 1 (by decide) (hts _ fl_Table_15) (fun _ h9 => h9) rfl d_Table_moveByRule0_62 ?_
      refine lv_iload_n hx hb d_Table_moveByRule0_65 rfl (lv_at hl 2 rfl) ?_
      refine hq_lald (j := a) hx hb hK hP 2 rfl (by omega) (by omega) d_Table_moveByRule0_66 ?_
      refine lv_lload_n hx hb d_Table_moveByRule0_67 rfl (lv_at hl 4 rfl) ?_
      refine lv_lload_n hx hb d_Table_moveByRule0_68 rfl (lv_at hl 4 rfl) ?_
      refine lv_lmul hx hb d_Table_moveByRule0_69 ?_
      refine lv_ladd hx hb d_Table_moveByRule0_70 ?_
      refine lv_ldc2 (v := 10000000000000000) hx hb hown (hts _ kl_Table_70) d_Table_moveByRule0_71 ?_
      have hPc : va_P D hq_cl ([] ++ ([hq_o4 h wa sa ca ru, hq_ai wa (G 0) n (upd wt a (Int64.toInt32 (((Int32.toInt64 (wt a)) * (sc a)) / (hq_m x)))), hq_al sa (G 1) n su, hq_al ca (G 1) n (vp_updL sc a (hq_m x))] ++ Z)) H := hP
      have hDc : va_D A ([] ++ ([hq_o4 h wa sa ca ru, hq_ai wa (G 0) n (upd wt a (Int64.toInt32 (((Int32.toInt64 (wt a)) * (sc a)) / (hq_m x)))), hq_al sa (G 1) n su, hq_al ca (G 1) n (vp_updL sc a (hq_m x))] ++ Z)) := hD
      refine hq_lF (hq_rSN (As := [.long ((su a) + (d * d)), .long 10000000000000000]) (rest := [.int (nI a), .ref sa]) hx hb hml hown hts (c_H_clip l D G A ([hq_o4 h wa sa ca ru, hq_ai wa (G 0) n (upd wt a (Int64.toInt32 (((Int32.toInt64 (wt a)) * (sc a)) / (hq_m x)))), hq_al sa (G 1) n su, hq_al ca (G 1) n (vp_updL sc a (hq_m x))] ++ Z) ((su a) + (d * d)) 10000000000000000) yy_H_clip lk_Table_51 hA hK hN hS hPc hDc rfl hl.1 rfl (Nat.le_of_ble_eq_true rfl) d_Table_moveByRule0_74 ⟨by decide, by decide⟩ ⟨by decide, by decide⟩) hS (fun H locs hP hD hS => ?_)
      have hP : va_P D hq_cl ([hq_o4 h wa sa ca ru, hq_ai wa (G 0) n (upd wt a (Int64.toInt32 (((Int32.toInt64 (wt a)) * (sc a)) / (hq_m x)))), hq_al sa (G 1) n su, hq_al ca (G 1) n (vp_updL sc a (hq_m x))] ++ Z) H := hP
      have hD : va_D A ([hq_o4 h wa sa ca ru, hq_ai wa (G 0) n (upd wt a (Int64.toInt32 (((Int32.toInt64 (wt a)) * (sc a)) / (hq_m x)))), hq_al sa (G 1) n su, hq_al ca (G 1) n (vp_updL sc a (hq_m x))] ++ Z) := hD
      refine hq_topl (x' := hq_s1 (su a) d) (rfl) ?_
      refine hq_last (j := a) hx hb hK hP hD hS 2 rfl (by omega) (by omega) d_Table_moveByRule0_77 (fun H locs hP hD hS => ?_)
      have hP : va_P D hq_cl ([hq_o4 h wa sa ca ru, hq_ai wa (G 0) n (upd wt a (Int64.toInt32 (((Int32.toInt64 (wt a)) * (sc a)) / (hq_m x)))), hq_al sa (G 1) n (vp_updL su a (hq_s1 (su a) d)), hq_al ca (G 1) n (vp_updL sc a (hq_m x))] ++ Z) H := hP
      have hD : va_D A ([hq_o4 h wa sa ca ru, hq_ai wa (G 0) n (upd wt a (Int64.toInt32 (((Int32.toInt64 (wt a)) * (sc a)) / (hq_m x)))), hq_al sa (G 1) n (vp_updL su a (hq_s1 (su a) d)), hq_al ca (G 1) n (vp_updL sc a (hq_m x))] ++ Z) := hD
      refine lv_ldc2 (v := 500000) hx hb hown (hts _ kl_Table_72) d_Table_moveByRule0_78 ?_
      refine lv_lload_n hx hb d_Table_moveByRule0_81 rfl (lv_at hl 4 rfl) ?_
      refine lv_lmul hx hb d_Table_moveByRule0_82 ?_
      refine lv_lconst (v := 1) hx hb d_Table_moveByRule0_83 (by decide) ?_
      refine lv_aload_n hx hb d_Table_moveByRule0_84 rfl (lv_at hl 1 rfl) ?_
      refine va_get (D := D) (ci := 4) (v := .ref sa) (C := R_Table) (T := F_Table) (N := 4) hx hb hts uw_Table hown hK hP 0 rfl rfl 1 (by decide) (hts _ fl_Table_15) (fun _ h9 => h9) rfl d_Table_moveByRule0_85 ?_
      refine lv_iload_n hx hb d_Table_moveByRule0_88 rfl (lv_at hl 2 rfl) ?_
      refine hq_lald (j := a) hx hb hK hP 2 rfl (by omega) (by omega) d_Table_moveByRule0_89 ?_
      refine hq_topl (x' := hq_s1 (su a) d) (pk_uLs) ?_
      have hPc : va_P D hq_cl ([] ++ ([hq_o4 h wa sa ca ru, hq_ai wa (G 0) n (upd wt a (Int64.toInt32 (((Int32.toInt64 (wt a)) * (sc a)) / (hq_m x)))), hq_al sa (G 1) n (vp_updL su a (hq_s1 (su a) d)), hq_al ca (G 1) n (vp_updL sc a (hq_m x))] ++ Z)) H := hP
      have hDc : va_D A ([] ++ ([hq_o4 h wa sa ca ru, hq_ai wa (G 0) n (upd wt a (Int64.toInt32 (((Int32.toInt64 (wt a)) * (sc a)) / (hq_m x)))), hq_al sa (G 1) n (vp_updL su a (hq_s1 (su a) d)), hq_al ca (G 1) n (vp_updL sc a (hq_m x))] ++ Z)) := hD
      refine hq_lF (hq_rSN (As := [.long (hq_s1 (su a) d)]) (rest := [.long 1, .long (500000 * d)]) hx hb hml hown hts (c_H_root l D G A ([hq_o4 h wa sa ca ru, hq_ai wa (G 0) n (upd wt a (Int64.toInt32 (((Int32.toInt64 (wt a)) * (sc a)) / (hq_m x)))), hq_al sa (G 1) n (vp_updL su a (hq_s1 (su a) d)), hq_al ca (G 1) n (vp_updL sc a (hq_m x))] ++ Z) (hq_s1 (su a) d) ((hq_s1_in hs0 hs1 hd0 hd1).1) ((hq_s1_in hs0 hs1 hd0 hd1).2)) yy_H_root lk_Table_74 hA hK hN hS hPc hDc rfl hl.1 rfl (Nat.le_of_ble_eq_true rfl) d_Table_moveByRule0_90 ⟨by decide, by decide⟩ ⟨by decide, by decide⟩) hS (fun H locs hP hD hS => ?_)
      have hP : va_P D hq_cl ([hq_o4 h wa sa ca ru, hq_ai wa (G 0) n (upd wt a (Int64.toInt32 (((Int32.toInt64 (wt a)) * (sc a)) / (hq_m x)))), hq_al sa (G 1) n (vp_updL su a (hq_s1 (su a) d)), hq_al ca (G 1) n (vp_updL sc a (hq_m x))] ++ Z) H := hP
      have hD : va_D A ([hq_o4 h wa sa ca ru, hq_ai wa (G 0) n (upd wt a (Int64.toInt32 (((Int32.toInt64 (wt a)) * (sc a)) / (hq_m x)))), hq_al sa (G 1) n (vp_updL su a (hq_s1 (su a) d)), hq_al ca (G 1) n (vp_updL sc a (hq_m x))] ++ Z) := hD
      refine lv_ladd hx hb d_Table_moveByRule0_93 ?_
      refine lv_aload_n hx hb d_Table_moveByRule0_94 rfl (lv_at hl 1 rfl) ?_
      refine va_get (D := D) (ci := 4) (v := .ref ca) (C := R_Table) (T := F_Table) (N := 4) hx hb hts uw_Table hown hK hP 0 rfl rfl 2 (by decide) (hts _ fl_Table_19) (fun _ h9 => h9) rfl d_Table_moveByRule0_95 ?_
      refine lv_iload_n hx hb d_Table_moveByRule0_98 rfl (lv_at hl 2 rfl) ?_
      refine hq_lald (j := a) hx hb hK hP 3 rfl (by omega) (by omega) d_Table_moveByRule0_99 ?_
      refine hq_topl (x' := hq_m x) (pk_uLs) ?_
      refine hq_topl (x' := hq_c0c (sc a) x) (by rw [hq_c0c, if_neg c21]) ?_
      refine lv_lmul hx hb d_Table_moveByRule0_100 ?_
      refine lv_ldiv hx hb d_Table_moveByRule0_101 (hq_den_ne (hq_root_in2 (hq_s1_in hs0 hs1 hd0 hd1).2).1 (hq_root_in2 (hq_s1_in hs0 hs1 hd0 hd1).2).2 ((hq_c0c_in hx0 hx1 hc0 hc1).2.2 c1) (hq_c0c_in hx0 hx1 hc0 hc1).2.1) ?_
      refine lv_lstore (nL := 9) (lv' := [(7, .long ((500000 * d) / ((1 + (hq_root (hq_s1 (su a) d))) * (hq_c0c (sc a) x)))), (5, .long (hq_m x)), (0, .ref h), (1, .int (nI a)), (2, .int x), (3, .long d)]) hx hb d_Table_moveByRule0_102 hl (by decide) rfl (fun ls hl => ?_)
      refine lv_aload_n hx hb d_Table_moveByRule0_104 rfl (lv_at hl 2 rfl) ?_
      refine va_get (D := D) (ci := 4) (v := .ref wa) (C := R_Table) (T := F_Table) (N := 4) hx hb hts uw_Table hown hK hP 0 rfl rfl 0 (by decide) (hts _ fl_Table_9) (fun _ h9 => h9) rfl d_Table_moveByRule0_105 ?_
      refine lv_iload_n hx hb d_Table_moveByRule0_108 rfl (lv_at hl 3 rfl) ?_
      refine lv_aload_n hx hb d_Table_moveByRule0_109 rfl (lv_at hl 2 rfl) ?_
      refine va_get (D := D) (ci := 4) (v := .ref wa) (C := R_Table) (T := F_Table) (N := 4) hx hb hts uw_Table hown hK hP 0 rfl rfl 0 (by decide) (hts _ fl_Table_9) (fun _ h9 => h9) rfl d_Table_moveByRule0_110 ?_
      refine lv_iload_n hx hb d_Table_moveByRule0_113 rfl (lv_at hl 3 rfl) ?_
      refine hq_iald (j := a) hx hb hK hP 1 rfl (by omega) (by omega) d_Table_moveByRule0_114 ?_
      refine hq_topi (x' := Int64.toInt32 (((Int32.toInt64 (wt a)) * (sc a)) / (hq_m x))) (pk_us) ?_
      refine hq_topi (x' := hq_c0w1 (wt a) (sc a) x) (by rw [hq_c0w1, if_neg c21]) ?_
      refine lv_i2l (v := Int32.toInt64 (hq_c0w1 (wt a) (sc a) x)) hx hb d_Table_moveByRule0_115 rfl ?_
      refine lv_lload hx hb d_Table_moveByRule0_116 (lv_at hl 0 rfl) ?_
      refine lv_lsub hx hb d_Table_moveByRule0_118 ?_
      refine lv_ldc2 (v := 100000000) hx hb hown (hts _ kl_Table_78) d_Table_moveByRule0_119 ?_
      have hPc : va_P D hq_cl ([] ++ ([hq_o4 h wa sa ca ru, hq_ai wa (G 0) n (upd wt a (Int64.toInt32 (((Int32.toInt64 (wt a)) * (sc a)) / (hq_m x)))), hq_al sa (G 1) n (vp_updL su a (hq_s1 (su a) d)), hq_al ca (G 1) n (vp_updL sc a (hq_m x))] ++ Z)) H := hP
      have hDc : va_D A ([] ++ ([hq_o4 h wa sa ca ru, hq_ai wa (G 0) n (upd wt a (Int64.toInt32 (((Int32.toInt64 (wt a)) * (sc a)) / (hq_m x)))), hq_al sa (G 1) n (vp_updL su a (hq_s1 (su a) d)), hq_al ca (G 1) n (vp_updL sc a (hq_m x))] ++ Z)) := hD
      refine hq_lF (hq_rSN (As := [.long ((Int32.toInt64 (hq_c0w1 (wt a) (sc a) x)) - ((500000 * d) / ((1 + (hq_root (hq_s1 (su a) d))) * (hq_c0c (sc a) x)))), .long 100000000]) (rest := [.int (nI a), .ref wa]) hx hb hml hown hts (c_H_clip l D G A ([hq_o4 h wa sa ca ru, hq_ai wa (G 0) n (upd wt a (Int64.toInt32 (((Int32.toInt64 (wt a)) * (sc a)) / (hq_m x)))), hq_al sa (G 1) n (vp_updL su a (hq_s1 (su a) d)), hq_al ca (G 1) n (vp_updL sc a (hq_m x))] ++ Z) ((Int32.toInt64 (hq_c0w1 (wt a) (sc a) x)) - ((500000 * d) / ((1 + (hq_root (hq_s1 (su a) d))) * (hq_c0c (sc a) x)))) 100000000) yy_H_clip lk_Table_51 hA hK hN hS hPc hDc rfl hl.1 rfl (Nat.le_of_ble_eq_true rfl) d_Table_moveByRule0_122 ⟨by decide, by decide⟩ ⟨by decide, by decide⟩) hS (fun H locs hP hD hS => ?_)
      have hP : va_P D hq_cl ([hq_o4 h wa sa ca ru, hq_ai wa (G 0) n (upd wt a (Int64.toInt32 (((Int32.toInt64 (wt a)) * (sc a)) / (hq_m x)))), hq_al sa (G 1) n (vp_updL su a (hq_s1 (su a) d)), hq_al ca (G 1) n (vp_updL sc a (hq_m x))] ++ Z) H := hP
      have hD : va_D A ([hq_o4 h wa sa ca ru, hq_ai wa (G 0) n (upd wt a (Int64.toInt32 (((Int32.toInt64 (wt a)) * (sc a)) / (hq_m x)))), hq_al sa (G 1) n (vp_updL su a (hq_s1 (su a) d)), hq_al ca (G 1) n (vp_updL sc a (hq_m x))] ++ Z) := hD
      refine lv_l2i (v := Int64.toInt32 (f_H_clip ((Int32.toInt64 (hq_c0w1 (wt a) (sc a) x)) - ((500000 * d) / ((1 + (hq_root (hq_s1 (su a) d))) * (hq_c0c (sc a) x)))) 100000000)) hx hb d_Table_moveByRule0_125 rfl ?_
      refine hq_topi (x' := hq_c0w (wt a) (su a) (sc a) x d) (rfl) ?_
      refine hq_iast (j := a) hx hb hK hP hD hS 1 rfl (by omega) (by omega) d_Table_moveByRule0_126 (fun H locs hP hD hS => ?_)
      have hP : va_P D hq_cl ([hq_o4 h wa sa ca ru, hq_ai wa (G 0) n (upd (upd wt a (Int64.toInt32 (((Int32.toInt64 (wt a)) * (sc a)) / (hq_m x)))) a (hq_c0w (wt a) (su a) (sc a) x d)), hq_al sa (G 1) n (vp_updL su a (hq_s1 (su a) d)), hq_al ca (G 1) n (vp_updL sc a (hq_m x))] ++ Z) H := hP
      have hD : va_D A ([hq_o4 h wa sa ca ru, hq_ai wa (G 0) n (upd (upd wt a (Int64.toInt32 (((Int32.toInt64 (wt a)) * (sc a)) / (hq_m x)))) a (hq_c0w (wt a) (su a) (sc a) x d)), hq_al sa (G 1) n (vp_updL su a (hq_s1 (su a) d)), hq_al ca (G 1) n (vp_updL sc a (hq_m x))] ++ Z) := hD
      have e9_0 : (if x = 0 then wt else upd wt a (hq_c0w (wt a) (su a) (sc a) x d)) = (upd (upd wt a (Int64.toInt32 (((Int32.toInt64 (wt a)) * (sc a)) / (hq_m x)))) a (hq_c0w (wt a) (su a) (sc a) x d)) := by first | (rw [if_neg c1]; done) | (rw [if_neg c1, hq_upd2]; done) | (rw [if_neg c1, hq_c0c, if_pos c21, hq_updL_id]; done) | (rw [if_neg c1, hq_c0c, if_neg c21]; done)
      have e9_1 : (if x = 0 then su else vp_updL su a (hq_s1 (su a) d)) = (vp_updL su a (hq_s1 (su a) d)) := by first | (rw [if_neg c1]; done) | (rw [if_neg c1, hq_upd2]; done) | (rw [if_neg c1, hq_c0c, if_pos c21, hq_updL_id]; done) | (rw [if_neg c1, hq_c0c, if_neg c21]; done)
      have e9_2 : (if x = 0 then sc else vp_updL sc a (hq_c0c (sc a) x)) = (vp_updL sc a (hq_m x)) := by first | (rw [if_neg c1]; done) | (rw [if_neg c1, hq_upd2]; done) | (rw [if_neg c1, hq_c0c, if_pos c21, hq_updL_id]; done) | (rw [if_neg c1, hq_c0c, if_neg c21]; done)
      have hP : va_P D hq_cl ([hq_o4 h wa sa ca ru, hq_ai wa (G 0) n (if x = 0 then wt else upd wt a (hq_c0w (wt a) (su a) (sc a) x d)), hq_al sa (G 1) n (if x = 0 then su else vp_updL su a (hq_s1 (su a) d)), hq_al ca (G 1) n (if x = 0 then sc else vp_updL sc a (hq_c0c (sc a) x))] ++ Z) H := by rw [e9_0, e9_1, e9_2]; exact hP
      have hD : va_D A ([hq_o4 h wa sa ca ru, hq_ai wa (G 0) n (if x = 0 then wt else upd wt a (hq_c0w (wt a) (su a) (sc a) x d)), hq_al sa (G 1) n (if x = 0 then su else vp_updL su a (hq_s1 (su a) d)), hq_al ca (G 1) n (if x = 0 then sc else vp_updL sc a (hq_c0c (sc a) x))] ++ Z) := by rw [e9_0, e9_1, e9_2]; exact hD
      exact hret () H locs 127 ls d_Table_moveByRule0_127 (trivial) hP hD hS
  · -- 1 not taken
    have c1 : x = 0 := c1
    have e9_0 : (if x = 0 then wt else upd wt a (hq_c0w (wt a) (su a) (sc a) x d)) = wt := by rw [if_pos c1]
    have e9_1 : (if x = 0 then su else vp_updL su a (hq_s1 (su a) d)) = su := by rw [if_pos c1]
    have e9_2 : (if x = 0 then sc else vp_updL sc a (hq_c0c (sc a) x)) = sc := by rw [if_pos c1]
    have hP : va_P D hq_cl ([hq_o4 h wa sa ca ru, hq_ai wa (G 0) n (if x = 0 then wt else upd wt a (hq_c0w (wt a) (su a) (sc a) x d)), hq_al sa (G 1) n (if x = 0 then su else vp_updL su a (hq_s1 (su a) d)), hq_al ca (G 1) n (if x = 0 then sc else vp_updL sc a (hq_c0c (sc a) x))] ++ Z) H := by rw [e9_0, e9_1, e9_2]; exact hP
    have hD : va_D A ([hq_o4 h wa sa ca ru, hq_ai wa (G 0) n (if x = 0 then wt else upd wt a (hq_c0w (wt a) (su a) (sc a) x d)), hq_al sa (G 1) n (if x = 0 then su else vp_updL su a (hq_s1 (su a) d)), hq_al ca (G 1) n (if x = 0 then sc else vp_updL sc a (hq_c0c (sc a) x))] ++ Z) := by rw [e9_0, e9_1, e9_2]; exact hD
    exact hret () H locs 4 ls d_Table_moveByRule0_4 (trivial) hP hD hS
theorem d_Table_moveByRule1_0 : decode b_Table_moveByRule1 0 = .ok (.aload_n 0, 1) := by decide +kernel
theorem d_Table_moveByRule1_1 : decode b_Table_moveByRule1 1 = .ok (.getfield 15, 3) := by decide +kernel
theorem d_Table_moveByRule1_4 : decode b_Table_moveByRule1 4 = .ok (.iload_n 1, 1) := by decide +kernel
theorem d_Table_moveByRule1_5 : decode b_Table_moveByRule1 5 = .ok (.laload, 1) := by decide +kernel
theorem d_Table_moveByRule1_6 : decode b_Table_moveByRule1 6 = .ok (.invokestatic 74, 3) := by decide +kernel
theorem d_Table_moveByRule1_9 : decode b_Table_moveByRule1 9 = .ok (.lstore 4, 2) := by decide +kernel
theorem d_Table_moveByRule1_11 : decode b_Table_moveByRule1 11 = .ok (.aload_n 0, 1) := by decide +kernel
theorem d_Table_moveByRule1_12 : decode b_Table_moveByRule1 12 = .ok (.getfield 15, 3) := by decide +kernel
theorem d_Table_moveByRule1_15 : decode b_Table_moveByRule1 15 = .ok (.iload_n 1, 1) := by decide +kernel
theorem d_Table_moveByRule1_16 : decode b_Table_moveByRule1 16 = .ok (.aload_n 0, 1) := by decide +kernel
theorem d_Table_moveByRule1_17 : decode b_Table_moveByRule1 17 = .ok (.getfield 15, 3) := by decide +kernel
theorem d_Table_moveByRule1_20 : decode b_Table_moveByRule1 20 = .ok (.iload_n 1, 1) := by decide +kernel
theorem d_Table_moveByRule1_21 : decode b_Table_moveByRule1 21 = .ok (.laload, 1) := by decide +kernel
theorem d_Table_moveByRule1_22 : decode b_Table_moveByRule1 22 = .ok (.lload_n 2, 1) := by decide +kernel
theorem d_Table_moveByRule1_23 : decode b_Table_moveByRule1 23 = .ok (.lload_n 2, 1) := by decide +kernel
theorem d_Table_moveByRule1_24 : decode b_Table_moveByRule1 24 = .ok (.lmul, 1) := by decide +kernel
theorem d_Table_moveByRule1_25 : decode b_Table_moveByRule1 25 = .ok (.ladd, 1) := by decide +kernel
theorem d_Table_moveByRule1_26 : decode b_Table_moveByRule1 26 = .ok (.ldc2_w 70, 3) := by decide +kernel
theorem d_Table_moveByRule1_29 : decode b_Table_moveByRule1 29 = .ok (.invokestatic 51, 3) := by decide +kernel
theorem d_Table_moveByRule1_32 : decode b_Table_moveByRule1 32 = .ok (.lastore, 1) := by decide +kernel
theorem d_Table_moveByRule1_33 : decode b_Table_moveByRule1 33 = .ok (.aload_n 0, 1) := by decide +kernel
theorem d_Table_moveByRule1_34 : decode b_Table_moveByRule1 34 = .ok (.getfield 15, 3) := by decide +kernel
theorem d_Table_moveByRule1_37 : decode b_Table_moveByRule1 37 = .ok (.iload_n 1, 1) := by decide +kernel
theorem d_Table_moveByRule1_38 : decode b_Table_moveByRule1 38 = .ok (.laload, 1) := by decide +kernel
theorem d_Table_moveByRule1_39 : decode b_Table_moveByRule1 39 = .ok (.invokestatic 74, 3) := by decide +kernel
theorem d_Table_moveByRule1_42 : decode b_Table_moveByRule1 42 = .ok (.lstore 6, 2) := by decide +kernel
theorem d_Table_moveByRule1_44 : decode b_Table_moveByRule1 44 = .ok (.lload 6, 2) := by decide +kernel
theorem d_Table_moveByRule1_46 : decode b_Table_moveByRule1 46 = .ok (.lload 4, 2) := by decide +kernel
theorem d_Table_moveByRule1_48 : decode b_Table_moveByRule1 48 = .ok (.lsub, 1) := by decide +kernel
theorem d_Table_moveByRule1_49 : decode b_Table_moveByRule1 49 = .ok (.aload_n 0, 1) := by decide +kernel
theorem d_Table_moveByRule1_50 : decode b_Table_moveByRule1 50 = .ok (.getfield 9, 3) := by decide +kernel
theorem d_Table_moveByRule1_53 : decode b_Table_moveByRule1 53 = .ok (.iload_n 1, 1) := by decide +kernel
theorem d_Table_moveByRule1_54 : decode b_Table_moveByRule1 54 = .ok (.iaload, 1) := by decide +kernel
theorem d_Table_moveByRule1_55 : decode b_Table_moveByRule1 55 = .ok (.i2l, 1) := by decide +kernel
theorem d_Table_moveByRule1_56 : decode b_Table_moveByRule1 56 = .ok (.lmul, 1) := by decide +kernel
theorem d_Table_moveByRule1_57 : decode b_Table_moveByRule1 57 = .ok (.ldc2_w 80, 3) := by decide +kernel
theorem d_Table_moveByRule1_60 : decode b_Table_moveByRule1 60 = .ok (.ldiv, 1) := by decide +kernel
theorem d_Table_moveByRule1_61 : decode b_Table_moveByRule1 61 = .ok (.lstore 8, 2) := by decide +kernel
theorem d_Table_moveByRule1_63 : decode b_Table_moveByRule1 63 = .ok (.aload_n 0, 1) := by decide +kernel
theorem d_Table_moveByRule1_64 : decode b_Table_moveByRule1 64 = .ok (.getfield 19, 3) := by decide +kernel
theorem d_Table_moveByRule1_67 : decode b_Table_moveByRule1 67 = .ok (.iload_n 1, 1) := by decide +kernel
theorem d_Table_moveByRule1_68 : decode b_Table_moveByRule1 68 = .ok (.aload_n 0, 1) := by decide +kernel
theorem d_Table_moveByRule1_69 : decode b_Table_moveByRule1 69 = .ok (.getfield 19, 3) := by decide +kernel
theorem d_Table_moveByRule1_72 : decode b_Table_moveByRule1 72 = .ok (.iload_n 1, 1) := by decide +kernel
theorem d_Table_moveByRule1_73 : decode b_Table_moveByRule1 73 = .ok (.laload, 1) := by decide +kernel
theorem d_Table_moveByRule1_74 : decode b_Table_moveByRule1 74 = .ok (.lload_n 2, 1) := by decide +kernel
theorem d_Table_moveByRule1_75 : decode b_Table_moveByRule1 75 = .ok (.ladd, 1) := by decide +kernel
theorem d_Table_moveByRule1_76 : decode b_Table_moveByRule1 76 = .ok (.lload 8, 2) := by decide +kernel
theorem d_Table_moveByRule1_78 : decode b_Table_moveByRule1 78 = .ok (.lsub, 1) := by decide +kernel
theorem d_Table_moveByRule1_79 : decode b_Table_moveByRule1 79 = .ok (.ldc2_w 82, 3) := by decide +kernel
theorem d_Table_moveByRule1_82 : decode b_Table_moveByRule1 82 = .ok (.invokestatic 51, 3) := by decide +kernel
theorem d_Table_moveByRule1_85 : decode b_Table_moveByRule1 85 = .ok (.lastore, 1) := by decide +kernel
theorem d_Table_moveByRule1_86 : decode b_Table_moveByRule1 86 = .ok (.aload_n 0, 1) := by decide +kernel
theorem d_Table_moveByRule1_87 : decode b_Table_moveByRule1 87 = .ok (.getfield 19, 3) := by decide +kernel
theorem d_Table_moveByRule1_90 : decode b_Table_moveByRule1 90 = .ok (.iload_n 1, 1) := by decide +kernel
theorem d_Table_moveByRule1_91 : decode b_Table_moveByRule1 91 = .ok (.laload, 1) := by decide +kernel
theorem d_Table_moveByRule1_92 : decode b_Table_moveByRule1 92 = .ok (.invokestatic 84, 3) := by decide +kernel
theorem d_Table_moveByRule1_95 : decode b_Table_moveByRule1 95 = .ok (.ldc2_w 86, 3) := by decide +kernel
theorem d_Table_moveByRule1_98 : decode b_Table_moveByRule1 98 = .ok (.lcmp, 1) := by decide +kernel
theorem d_Table_moveByRule1_99 : decode b_Table_moveByRule1 99 = .ok (.ifCond .gt (13), 3) := by decide +kernel
theorem d_Table_moveByRule1_102 : decode b_Table_moveByRule1 102 = .ok (.aload_n 0, 1) := by decide +kernel
theorem d_Table_moveByRule1_103 : decode b_Table_moveByRule1 103 = .ok (.getfield 9, 3) := by decide +kernel
theorem d_Table_moveByRule1_106 : decode b_Table_moveByRule1 106 = .ok (.iload_n 1, 1) := by decide +kernel
theorem d_Table_moveByRule1_107 : decode b_Table_moveByRule1 107 = .ok (.iconst 0, 1) := by decide +kernel
theorem d_Table_moveByRule1_108 : decode b_Table_moveByRule1 108 = .ok (.iastore, 1) := by decide +kernel
theorem d_Table_moveByRule1_109 : decode b_Table_moveByRule1 109 = .ok (.goto (65), 3) := by decide +kernel
theorem d_Table_moveByRule1_112 : decode b_Table_moveByRule1 112 = .ok (.aload_n 0, 1) := by decide +kernel
theorem d_Table_moveByRule1_113 : decode b_Table_moveByRule1 113 = .ok (.getfield 19, 3) := by decide +kernel
theorem d_Table_moveByRule1_116 : decode b_Table_moveByRule1 116 = .ok (.iload_n 1, 1) := by decide +kernel
theorem d_Table_moveByRule1_117 : decode b_Table_moveByRule1 117 = .ok (.laload, 1) := by decide +kernel
theorem d_Table_moveByRule1_118 : decode b_Table_moveByRule1 118 = .ok (.lconst 0, 1) := by decide +kernel
theorem d_Table_moveByRule1_119 : decode b_Table_moveByRule1 119 = .ok (.lcmp, 1) := by decide +kernel
theorem d_Table_moveByRule1_120 : decode b_Table_moveByRule1 120 = .ok (.ifCond .le (16), 3) := by decide +kernel
theorem d_Table_moveByRule1_123 : decode b_Table_moveByRule1 123 = .ok (.aload_n 0, 1) := by decide +kernel
theorem d_Table_moveByRule1_124 : decode b_Table_moveByRule1 124 = .ok (.getfield 19, 3) := by decide +kernel
theorem d_Table_moveByRule1_127 : decode b_Table_moveByRule1 127 = .ok (.iload_n 1, 1) := by decide +kernel
theorem d_Table_moveByRule1_128 : decode b_Table_moveByRule1 128 = .ok (.laload, 1) := by decide +kernel
theorem d_Table_moveByRule1_129 : decode b_Table_moveByRule1 129 = .ok (.ldc2_w 86, 3) := by decide +kernel
theorem d_Table_moveByRule1_132 : decode b_Table_moveByRule1 132 = .ok (.lsub, 1) := by decide +kernel
theorem d_Table_moveByRule1_133 : decode b_Table_moveByRule1 133 = .ok (.goto (13), 3) := by decide +kernel
theorem d_Table_moveByRule1_136 : decode b_Table_moveByRule1 136 = .ok (.aload_n 0, 1) := by decide +kernel
theorem d_Table_moveByRule1_137 : decode b_Table_moveByRule1 137 = .ok (.getfield 19, 3) := by decide +kernel
theorem d_Table_moveByRule1_140 : decode b_Table_moveByRule1 140 = .ok (.iload_n 1, 1) := by decide +kernel
theorem d_Table_moveByRule1_141 : decode b_Table_moveByRule1 141 = .ok (.laload, 1) := by decide +kernel
theorem d_Table_moveByRule1_142 : decode b_Table_moveByRule1 142 = .ok (.ldc2_w 86, 3) := by decide +kernel
theorem d_Table_moveByRule1_145 : decode b_Table_moveByRule1 145 = .ok (.ladd, 1) := by decide +kernel
theorem d_Table_moveByRule1_146 : decode b_Table_moveByRule1 146 = .ok (.lstore 10, 2) := by decide +kernel
theorem d_Table_moveByRule1_148 : decode b_Table_moveByRule1 148 = .ok (.aload_n 0, 1) := by decide +kernel
theorem d_Table_moveByRule1_149 : decode b_Table_moveByRule1 149 = .ok (.getfield 9, 3) := by decide +kernel
theorem d_Table_moveByRule1_152 : decode b_Table_moveByRule1 152 = .ok (.iload_n 1, 1) := by decide +kernel
theorem d_Table_moveByRule1_153 : decode b_Table_moveByRule1 153 = .ok (.ldc2_w 88, 3) := by decide +kernel
theorem d_Table_moveByRule1_156 : decode b_Table_moveByRule1 156 = .ok (.lload 10, 2) := by decide +kernel
theorem d_Table_moveByRule1_158 : decode b_Table_moveByRule1 158 = .ok (.lmul, 1) := by decide +kernel
theorem d_Table_moveByRule1_159 : decode b_Table_moveByRule1 159 = .ok (.ldc2_w 55, 3) := by decide +kernel
theorem d_Table_moveByRule1_162 : decode b_Table_moveByRule1 162 = .ok (.lload 6, 2) := by decide +kernel
theorem d_Table_moveByRule1_164 : decode b_Table_moveByRule1 164 = .ok (.ladd, 1) := by decide +kernel
theorem d_Table_moveByRule1_165 : decode b_Table_moveByRule1 165 = .ok (.ldiv, 1) := by decide +kernel
theorem d_Table_moveByRule1_166 : decode b_Table_moveByRule1 166 = .ok (.ldc2_w 78, 3) := by decide +kernel
theorem d_Table_moveByRule1_169 : decode b_Table_moveByRule1 169 = .ok (.invokestatic 51, 3) := by decide +kernel
theorem d_Table_moveByRule1_172 : decode b_Table_moveByRule1 172 = .ok (.l2i, 1) := by decide +kernel
theorem d_Table_moveByRule1_173 : decode b_Table_moveByRule1 173 = .ok (.iastore, 1) := by decide +kernel
theorem d_Table_moveByRule1_174 : decode b_Table_moveByRule1 174 = .ok (.return_, 1) := by decide +kernel
set_option maxHeartbeats 4000000 in
set_option maxRecDepth 100000 in
theorem c_Table_moveByRule1 (l : Launch) (D : va_G) (G : Nat → ClassId) (A : Nat → Prop) (Z : va_W) (h : Nat) (wa : Nat) (sa : Nat) (ca : Nat) (n : Nat) (wt : Nat → Int32) (su : Nat → Int64) (sc : Nat → Int64) (ru : Int32) (a : Nat) (d : Int64) (hn : hq_pow n) (ha : a < n) (hs0 : 0 ≤ (su a).toInt) (hs1 : (su a).toInt ≤ 10000000000000000) (hd0 : -100000000 ≤ d.toInt) (hd1 : d.toInt ≤ 100000000) : hq_FV l D G A y_Table_moveByRule1 b_Table_moveByRule1 12 2 [.ref h, .int (nI a), .long d] ([hq_o4 h wa sa ca ru, hq_ai wa (G 0) n wt, hq_al sa (G 1) n su, hq_al ca (G 1) n sc] ++ Z) ([hq_o4 h wa sa ca ru, hq_ai wa (G 0) n (upd wt a (hq_c1w (wt a) (su a) (sc a) d)), hq_al sa (G 1) n (vp_updL su a (hq_s1 (su a) d)), hq_al ca (G 1) n (vp_updL sc a (hq_c1c (wt a) (su a) (sc a) d))] ++ Z) := by
  refine hq_bV (by decide) (Nat.le_of_ble_eq_true rfl) ?_
  intro p e s m args below meth c Q hx hb hml hts hown hA hK hN hin hret ls H locs hl hP hD hS
  have hown : s.vm.findClass "HashedLearner$Table" = some m.cls := hown
  have hl : lv_has ls 12 [(0, .ref h), (1, .int (nI a)), (2, .long d)] := hl
  have hn31 := hq_pow_lt hn
  refine lv_aload_n hx hb d_Table_moveByRule1_0 rfl (lv_at hl 0 rfl) ?_
  refine va_get (D := D) (ci := 4) (v := .ref sa) (C := R_Table) (T := F_Table) (N := 4) hx hb hts uw_Table hown hK hP 0 rfl rfl 1 (by decide) (hts _ fl_Table_15) (fun _ h9 => h9) rfl d_Table_moveByRule1_1 ?_
  refine lv_iload_n hx hb d_Table_moveByRule1_4 rfl (lv_at hl 1 rfl) ?_
  refine hq_lald (j := a) hx hb hK hP 2 rfl (by omega) (by omega) d_Table_moveByRule1_5 ?_
  have hPc : va_P D hq_cl ([] ++ ([hq_o4 h wa sa ca ru, hq_ai wa (G 0) n wt, hq_al sa (G 1) n su, hq_al ca (G 1) n sc] ++ Z)) H := hP
  have hDc : va_D A ([] ++ ([hq_o4 h wa sa ca ru, hq_ai wa (G 0) n wt, hq_al sa (G 1) n su, hq_al ca (G 1) n sc] ++ Z)) := hD
  refine hq_lF (hq_rSN (As := [.long (su a)]) (rest := []) hx hb hml hown hts (c_H_root l D G A ([hq_o4 h wa sa ca ru, hq_ai wa (G 0) n wt, hq_al sa (G 1) n su, hq_al ca (G 1) n sc] ++ Z) (su a) (by first | assumption | omega) (by first | assumption | omega)) yy_H_root lk_Table_74 hA hK hN hS hPc hDc rfl hl.1 rfl (Nat.le_of_ble_eq_true rfl) d_Table_moveByRule1_6 ⟨by decide, by decide⟩ ⟨by decide, by decide⟩) hS (fun H locs hP hD hS => ?_)
  have hP : va_P D hq_cl ([hq_o4 h wa sa ca ru, hq_ai wa (G 0) n wt, hq_al sa (G 1) n su, hq_al ca (G 1) n sc] ++ Z) H := hP
  have hD : va_D A ([hq_o4 h wa sa ca ru, hq_ai wa (G 0) n wt, hq_al sa (G 1) n su, hq_al ca (G 1) n sc] ++ Z) := hD
  refine lv_lstore (nL := 12) (lv' := [(4, .long (hq_root (su a))), (0, .ref h), (1, .int (nI a)), (2, .long d)]) hx hb d_Table_moveByRule1_9 hl (by decide) rfl (fun ls hl => ?_)
  refine lv_aload_n hx hb d_Table_moveByRule1_11 rfl (lv_at hl 1 rfl) ?_
  refine va_get (D := D) (ci := 4) (v := .ref sa) (C := R_Table) (T := F_Table) (N := 4) hx hb hts uw_Table hown hK hP 0 rfl rfl 1 (by decide) (hts _ fl_Table_15) (fun _ h9 => h9) rfl d_Table_moveByRule1_12 ?_
  refine lv_iload_n hx hb d_Table_moveByRule1_15 rfl (lv_at hl 2 rfl) ?_
  refine lv_aload_n hx hb d_Table_moveByRule1_16 rfl (lv_at hl 1 rfl) ?_
  refine va_get (D := D) (ci := 4) (v := .ref sa) (C := R_Table) (T := F_Table) (N := 4) hx hb hts uw_Table hown hK hP 0 rfl rfl 1 (by decide) (hts _ fl_Table_15) (fun _ h9 => h9) rfl d_Table_moveByRule1_17 ?_
  refine lv_iload_n hx hb d_Table_moveByRule1_20 rfl (lv_at hl 2 rfl) ?_
  refine hq_lald (j := a) hx hb hK hP 2 rfl (by omega) (by omega) d_Table_moveByRule1_21 ?_
  refine lv_lload_n hx hb d_Table_moveByRule1_22 rfl (lv_at hl 3 rfl) ?_
  refine lv_lload_n hx hb d_Table_moveByRule1_23 rfl (lv_at hl 3 rfl) ?_
  refine lv_lmul hx hb d_Table_moveByRule1_24 ?_
  refine lv_ladd hx hb d_Table_moveByRule1_25 ?_
  refine lv_ldc2 (v := 10000000000000000) hx hb hown (hts _ kl_Table_70) d_Table_moveByRule1_26 ?_
  have hPc : va_P D hq_cl ([] ++ ([hq_o4 h wa sa ca ru, hq_ai wa (G 0) n wt, hq_al sa (G 1) n su, hq_al ca (G 1) n sc] ++ Z)) H := hP
  have hDc : va_D A ([] ++ ([hq_o4 h wa sa ca ru, hq_ai wa (G 0) n wt, hq_al sa (G 1) n su, hq_al ca (G 1) n sc] ++ Z)) := hD
  refine hq_lF (hq_rSN (As := [.long ((su a) + (d * d)), .long 10000000000000000]) (rest := [.int (nI a), .ref sa]) hx hb hml hown hts (c_H_clip l D G A ([hq_o4 h wa sa ca ru, hq_ai wa (G 0) n wt, hq_al sa (G 1) n su, hq_al ca (G 1) n sc] ++ Z) ((su a) + (d * d)) 10000000000000000) yy_H_clip lk_Table_51 hA hK hN hS hPc hDc rfl hl.1 rfl (Nat.le_of_ble_eq_true rfl) d_Table_moveByRule1_29 ⟨by decide, by decide⟩ ⟨by decide, by decide⟩) hS (fun H locs hP hD hS => ?_)
  have hP : va_P D hq_cl ([hq_o4 h wa sa ca ru, hq_ai wa (G 0) n wt, hq_al sa (G 1) n su, hq_al ca (G 1) n sc] ++ Z) H := hP
  have hD : va_D A ([hq_o4 h wa sa ca ru, hq_ai wa (G 0) n wt, hq_al sa (G 1) n su, hq_al ca (G 1) n sc] ++ Z) := hD
  refine hq_topl (x' := hq_s1 (su a) d) (rfl) ?_
  refine hq_last (j := a) hx hb hK hP hD hS 2 rfl (by omega) (by omega) d_Table_moveByRule1_32 (fun H locs hP hD hS => ?_)
  have hP : va_P D hq_cl ([hq_o4 h wa sa ca ru, hq_ai wa (G 0) n wt, hq_al sa (G 1) n (vp_updL su a (hq_s1 (su a) d)), hq_al ca (G 1) n sc] ++ Z) H := hP
  have hD : va_D A ([hq_o4 h wa sa ca ru, hq_ai wa (G 0) n wt, hq_al sa (G 1) n (vp_updL su a (hq_s1 (su a) d)), hq_al ca (G 1) n sc] ++ Z) := hD
  refine lv_aload_n hx hb d_Table_moveByRule1_33 rfl (lv_at hl 1 rfl) ?_
  refine va_get (D := D) (ci := 4) (v := .ref sa) (C := R_Table) (T := F_Table) (N := 4) hx hb hts uw_Table hown hK hP 0 rfl rfl 1 (by decide) (hts _ fl_Table_15) (fun _ h9 => h9) rfl d_Table_moveByRule1_34 ?_
  refine lv_iload_n hx hb d_Table_moveByRule1_37 rfl (lv_at hl 2 rfl) ?_
  refine hq_lald (j := a) hx hb hK hP 2 rfl (by omega) (by omega) d_Table_moveByRule1_38 ?_
  refine hq_topl (x' := hq_s1 (su a) d) (pk_uLs) ?_
  have hPc : va_P D hq_cl ([] ++ ([hq_o4 h wa sa ca ru, hq_ai wa (G 0) n wt, hq_al sa (G 1) n (vp_updL su a (hq_s1 (su a) d)), hq_al ca (G 1) n sc] ++ Z)) H := hP
  have hDc : va_D A ([] ++ ([hq_o4 h wa sa ca ru, hq_ai wa (G 0) n wt, hq_al sa (G 1) n (vp_updL su a (hq_s1 (su a) d)), hq_al ca (G 1) n sc] ++ Z)) := hD
  refine hq_lF (hq_rSN (As := [.long (hq_s1 (su a) d)]) (rest := []) hx hb hml hown hts (c_H_root l D G A ([hq_o4 h wa sa ca ru, hq_ai wa (G 0) n wt, hq_al sa (G 1) n (vp_updL su a (hq_s1 (su a) d)), hq_al ca (G 1) n sc] ++ Z) (hq_s1 (su a) d) ((hq_s1_in hs0 hs1 hd0 hd1).1) ((hq_s1_in hs0 hs1 hd0 hd1).2)) yy_H_root lk_Table_74 hA hK hN hS hPc hDc rfl hl.1 rfl (Nat.le_of_ble_eq_true rfl) d_Table_moveByRule1_39 ⟨by decide, by decide⟩ ⟨by decide, by decide⟩) hS (fun H locs hP hD hS => ?_)
  have hP : va_P D hq_cl ([hq_o4 h wa sa ca ru, hq_ai wa (G 0) n wt, hq_al sa (G 1) n (vp_updL su a (hq_s1 (su a) d)), hq_al ca (G 1) n sc] ++ Z) H := hP
  have hD : va_D A ([hq_o4 h wa sa ca ru, hq_ai wa (G 0) n wt, hq_al sa (G 1) n (vp_updL su a (hq_s1 (su a) d)), hq_al ca (G 1) n sc] ++ Z) := hD
  refine lv_lstore (nL := 12) (lv' := [(6, .long (hq_root (hq_s1 (su a) d))), (4, .long (hq_root (su a))), (0, .ref h), (1, .int (nI a)), (2, .long d)]) hx hb d_Table_moveByRule1_42 hl (by decide) rfl (fun ls hl => ?_)
  refine lv_lload hx hb d_Table_moveByRule1_44 (lv_at hl 0 rfl) ?_
  refine lv_lload hx hb d_Table_moveByRule1_46 (lv_at hl 1 rfl) ?_
  refine lv_lsub hx hb d_Table_moveByRule1_48 ?_
  refine lv_aload_n hx hb d_Table_moveByRule1_49 rfl (lv_at hl 2 rfl) ?_
  refine va_get (D := D) (ci := 4) (v := .ref wa) (C := R_Table) (T := F_Table) (N := 4) hx hb hts uw_Table hown hK hP 0 rfl rfl 0 (by decide) (hts _ fl_Table_9) (fun _ h9 => h9) rfl d_Table_moveByRule1_50 ?_
  refine lv_iload_n hx hb d_Table_moveByRule1_53 rfl (lv_at hl 3 rfl) ?_
  refine hq_iald (j := a) hx hb hK hP 1 rfl (by omega) (by omega) d_Table_moveByRule1_54 ?_
  refine lv_i2l (v := Int32.toInt64 (wt a)) hx hb d_Table_moveByRule1_55 rfl ?_
  refine lv_lmul hx hb d_Table_moveByRule1_56 ?_
  refine lv_ldc2 (v := 5000) hx hb hown (hts _ kl_Table_80) d_Table_moveByRule1_57 ?_
  refine lv_ldiv hx hb d_Table_moveByRule1_60 (by decide) ?_
  refine lv_lstore (nL := 12) (lv' := [(8, .long ((((hq_root (hq_s1 (su a) d)) - (hq_root (su a))) * (Int32.toInt64 (wt a))) / 5000)), (6, .long (hq_root (hq_s1 (su a) d))), (4, .long (hq_root (su a))), (0, .ref h), (1, .int (nI a)), (2, .long d)]) hx hb d_Table_moveByRule1_61 hl (by decide) rfl (fun ls hl => ?_)
  refine lv_aload_n hx hb d_Table_moveByRule1_63 rfl (lv_at hl 3 rfl) ?_
  refine va_get (D := D) (ci := 4) (v := .ref ca) (C := R_Table) (T := F_Table) (N := 4) hx hb hts uw_Table hown hK hP 0 rfl rfl 2 (by decide) (hts _ fl_Table_19) (fun _ h9 => h9) rfl d_Table_moveByRule1_64 ?_
  refine lv_iload_n hx hb d_Table_moveByRule1_67 rfl (lv_at hl 4 rfl) ?_
  refine lv_aload_n hx hb d_Table_moveByRule1_68 rfl (lv_at hl 3 rfl) ?_
  refine va_get (D := D) (ci := 4) (v := .ref ca) (C := R_Table) (T := F_Table) (N := 4) hx hb hts uw_Table hown hK hP 0 rfl rfl 2 (by decide) (hts _ fl_Table_19) (fun _ h9 => h9) rfl d_Table_moveByRule1_69 ?_
  refine lv_iload_n hx hb d_Table_moveByRule1_72 rfl (lv_at hl 4 rfl) ?_
  refine hq_lald (j := a) hx hb hK hP 3 rfl (by omega) (by omega) d_Table_moveByRule1_73 ?_
  refine lv_lload_n hx hb d_Table_moveByRule1_74 rfl (lv_at hl 5 rfl) ?_
  refine lv_ladd hx hb d_Table_moveByRule1_75 ?_
  refine lv_lload hx hb d_Table_moveByRule1_76 (lv_at hl 0 rfl) ?_
  refine lv_lsub hx hb d_Table_moveByRule1_78 ?_
  refine lv_ldc2 (v := 1000000000000) hx hb hown (hts _ kl_Table_82) d_Table_moveByRule1_79 ?_
  have hPc : va_P D hq_cl ([] ++ ([hq_o4 h wa sa ca ru, hq_ai wa (G 0) n wt, hq_al sa (G 1) n (vp_updL su a (hq_s1 (su a) d)), hq_al ca (G 1) n sc] ++ Z)) H := hP
  have hDc : va_D A ([] ++ ([hq_o4 h wa sa ca ru, hq_ai wa (G 0) n wt, hq_al sa (G 1) n (vp_updL su a (hq_s1 (su a) d)), hq_al ca (G 1) n sc] ++ Z)) := hD
  refine hq_lF (hq_rSN (As := [.long (((sc a) + d) - ((((hq_root (hq_s1 (su a) d)) - (hq_root (su a))) * (Int32.toInt64 (wt a))) / 5000)), .long 1000000000000]) (rest := [.int (nI a), .ref ca]) hx hb hml hown hts (c_H_clip l D G A ([hq_o4 h wa sa ca ru, hq_ai wa (G 0) n wt, hq_al sa (G 1) n (vp_updL su a (hq_s1 (su a) d)), hq_al ca (G 1) n sc] ++ Z) (((sc a) + d) - ((((hq_root (hq_s1 (su a) d)) - (hq_root (su a))) * (Int32.toInt64 (wt a))) / 5000)) 1000000000000) yy_H_clip lk_Table_51 hA hK hN hS hPc hDc rfl hl.1 rfl (Nat.le_of_ble_eq_true rfl) d_Table_moveByRule1_82 ⟨by decide, by decide⟩ ⟨by decide, by decide⟩) hS (fun H locs hP hD hS => ?_)
  have hP : va_P D hq_cl ([hq_o4 h wa sa ca ru, hq_ai wa (G 0) n wt, hq_al sa (G 1) n (vp_updL su a (hq_s1 (su a) d)), hq_al ca (G 1) n sc] ++ Z) H := hP
  have hD : va_D A ([hq_o4 h wa sa ca ru, hq_ai wa (G 0) n wt, hq_al sa (G 1) n (vp_updL su a (hq_s1 (su a) d)), hq_al ca (G 1) n sc] ++ Z) := hD
  refine hq_topl (x' := hq_c1c (wt a) (su a) (sc a) d) (rfl) ?_
  refine hq_last (j := a) hx hb hK hP hD hS 3 rfl (by omega) (by omega) d_Table_moveByRule1_85 (fun H locs hP hD hS => ?_)
  have hP : va_P D hq_cl ([hq_o4 h wa sa ca ru, hq_ai wa (G 0) n wt, hq_al sa (G 1) n (vp_updL su a (hq_s1 (su a) d)), hq_al ca (G 1) n (vp_updL sc a (hq_c1c (wt a) (su a) (sc a) d))] ++ Z) H := hP
  have hD : va_D A ([hq_o4 h wa sa ca ru, hq_ai wa (G 0) n wt, hq_al sa (G 1) n (vp_updL su a (hq_s1 (su a) d)), hq_al ca (G 1) n (vp_updL sc a (hq_c1c (wt a) (su a) (sc a) d))] ++ Z) := hD
  refine lv_aload_n hx hb d_Table_moveByRule1_86 rfl (lv_at hl 3 rfl) ?_
  refine va_get (D := D) (ci := 4) (v := .ref ca) (C := R_Table) (T := F_Table) (N := 4) hx hb hts uw_Table hown hK hP 0 rfl rfl 2 (by decide) (hts _ fl_Table_19) (fun _ h9 => h9) rfl d_Table_moveByRule1_87 ?_
  refine lv_iload_n hx hb d_Table_moveByRule1_90 rfl (lv_at hl 4 rfl) ?_
  refine hq_lald (j := a) hx hb hK hP 3 rfl (by omega) (by omega) d_Table_moveByRule1_91 ?_
  refine hq_topl (x' := hq_c1c (wt a) (su a) (sc a) d) (pk_uLs) ?_
  refine va_mabs_long hx hb (by rw [hml]; exact hl.1.symm) hown (hts _ ma_Table_84) (hts _ ma_s_absL) (hts _ ma_i) (hts _ ma_c_absL) (by decide) (Nat.le_of_ble_eq_true rfl) (by decide) (by decide) d_Table_moveByRule1_92 ?_
  refine lv_ldc2 (v := 10) hx hb hown (hts _ kl_Table_86) d_Table_moveByRule1_95 ?_
  refine W.lcmp hx hb d_Table_moveByRule1_98 ?_
  refine lv_if_gt (tgt := 112) hx hb d_Table_moveByRule1_99 rfl (fun c99 => ?_) (fun c99 => ?_)
  · -- 99 taken
    have c99 : 10 < (if 0 < (hq_c1c (wt a) (su a) (sc a) d) then (hq_c1c (wt a) (su a) (sc a) d) else -(hq_c1c (wt a) (su a) (sc a) d)) := (lg_cmp_gt (if 0 < (hq_c1c (wt a) (su a) (sc a) d) then (hq_c1c (wt a) (su a) (sc a) d) else -(hq_c1c (wt a) (su a) (sc a) d)) 10).mp c99
    refine lv_aload_n hx hb d_Table_moveByRule1_112 rfl (lv_at hl 3 rfl) ?_
    refine va_get (D := D) (ci := 4) (v := .ref ca) (C := R_Table) (T := F_Table) (N := 4) hx hb hts uw_Table hown hK hP 0 rfl rfl 2 (by decide) (hts _ fl_Table_19) (fun _ h9 => h9) rfl d_Table_moveByRule1_113 ?_
    refine lv_iload_n hx hb d_Table_moveByRule1_116 rfl (lv_at hl 4 rfl) ?_
    refine hq_lald (j := a) hx hb hK hP 3 rfl (by omega) (by omega) d_Table_moveByRule1_117 ?_
    refine hq_topl (x' := hq_c1c (wt a) (su a) (sc a) d) (pk_uLs) ?_
    refine lv_lconst (v := 0) hx hb d_Table_moveByRule1_118 (by decide) ?_
    refine W.lcmp hx hb d_Table_moveByRule1_119 ?_
    refine lv_if_le (tgt := 136) hx hb d_Table_moveByRule1_120 rfl (fun c120 => ?_) (fun c120 => ?_)
    · -- 120 taken
      have c120 : (hq_c1c (wt a) (su a) (sc a) d) ≤ 0 := (lg_cmp_le (hq_c1c (wt a) (su a) (sc a) d) 0).mp c120
      refine lv_aload_n hx hb d_Table_moveByRule1_136 rfl (lv_at hl 3 rfl) ?_
      refine va_get (D := D) (ci := 4) (v := .ref ca) (C := R_Table) (T := F_Table) (N := 4) hx hb hts uw_Table hown hK hP 0 rfl rfl 2 (by decide) (hts _ fl_Table_19) (fun _ h9 => h9) rfl d_Table_moveByRule1_137 ?_
      refine lv_iload_n hx hb d_Table_moveByRule1_140 rfl (lv_at hl 4 rfl) ?_
      refine hq_lald (j := a) hx hb hK hP 3 rfl (by omega) (by omega) d_Table_moveByRule1_141 ?_
      refine hq_topl (x' := hq_c1c (wt a) (su a) (sc a) d) (pk_uLs) ?_
      refine lv_ldc2 (v := 10) hx hb hown (hts _ kl_Table_86) d_Table_moveByRule1_142 ?_
      refine lv_ladd hx hb d_Table_moveByRule1_145 ?_
      refine lv_lstore (nL := 12) (lv' := [(10, .long ((hq_c1c (wt a) (su a) (sc a) d) + 10)), (8, .long ((((hq_root (hq_s1 (su a) d)) - (hq_root (su a))) * (Int32.toInt64 (wt a))) / 5000)), (6, .long (hq_root (hq_s1 (su a) d))), (4, .long (hq_root (su a))), (0, .ref h), (1, .int (nI a)), (2, .long d)]) hx hb d_Table_moveByRule1_146 hl (by decide) rfl (fun ls hl => ?_)
      refine lv_aload_n hx hb d_Table_moveByRule1_148 rfl (lv_at hl 4 rfl) ?_
      refine va_get (D := D) (ci := 4) (v := .ref wa) (C := R_Table) (T := F_Table) (N := 4) hx hb hts uw_Table hown hK hP 0 rfl rfl 0 (by decide) (hts _ fl_Table_9) (fun _ h9 => h9) rfl d_Table_moveByRule1_149 ?_
      refine lv_iload_n hx hb d_Table_moveByRule1_152 rfl (lv_at hl 5 rfl) ?_
      refine lv_ldc2 (v := (-5000)) hx hb hown (hts _ kl_Table_88) d_Table_moveByRule1_153 ?_
      refine lv_lload hx hb d_Table_moveByRule1_156 (lv_at hl 0 rfl) ?_
      refine lv_lmul hx hb d_Table_moveByRule1_158 ?_
      refine lv_ldc2 (v := 100) hx hb hown (hts _ kl_Table_55) d_Table_moveByRule1_159 ?_
      refine lv_lload hx hb d_Table_moveByRule1_162 (lv_at hl 2 rfl) ?_
      refine lv_ladd hx hb d_Table_moveByRule1_164 ?_
      refine lv_ldiv hx hb d_Table_moveByRule1_165 (hq_den1_ne (hq_root_in2 (hq_s1_in hs0 hs1 hd0 hd1).2).1 (hq_root_in2 (hq_s1_in hs0 hs1 hd0 hd1).2).2) ?_
      refine lv_ldc2 (v := 100000000) hx hb hown (hts _ kl_Table_78) d_Table_moveByRule1_166 ?_
      have hPc : va_P D hq_cl ([] ++ ([hq_o4 h wa sa ca ru, hq_ai wa (G 0) n wt, hq_al sa (G 1) n (vp_updL su a (hq_s1 (su a) d)), hq_al ca (G 1) n (vp_updL sc a (hq_c1c (wt a) (su a) (sc a) d))] ++ Z)) H := hP
      have hDc : va_D A ([] ++ ([hq_o4 h wa sa ca ru, hq_ai wa (G 0) n wt, hq_al sa (G 1) n (vp_updL su a (hq_s1 (su a) d)), hq_al ca (G 1) n (vp_updL sc a (hq_c1c (wt a) (su a) (sc a) d))] ++ Z)) := hD
      refine hq_lF (hq_rSN (As := [.long (((-5000) * ((hq_c1c (wt a) (su a) (sc a) d) + 10)) / (100 + (hq_root (hq_s1 (su a) d)))), .long 100000000]) (rest := [.int (nI a), .ref wa]) hx hb hml hown hts (c_H_clip l D G A ([hq_o4 h wa sa ca ru, hq_ai wa (G 0) n wt, hq_al sa (G 1) n (vp_updL su a (hq_s1 (su a) d)), hq_al ca (G 1) n (vp_updL sc a (hq_c1c (wt a) (su a) (sc a) d))] ++ Z) (((-5000) * ((hq_c1c (wt a) (su a) (sc a) d) + 10)) / (100 + (hq_root (hq_s1 (su a) d)))) 100000000) yy_H_clip lk_Table_51 hA hK hN hS hPc hDc rfl hl.1 rfl (Nat.le_of_ble_eq_true rfl) d_Table_moveByRule1_169 ⟨by decide, by decide⟩ ⟨by decide, by decide⟩) hS (fun H locs hP hD hS => ?_)
      have hP : va_P D hq_cl ([hq_o4 h wa sa ca ru, hq_ai wa (G 0) n wt, hq_al sa (G 1) n (vp_updL su a (hq_s1 (su a) d)), hq_al ca (G 1) n (vp_updL sc a (hq_c1c (wt a) (su a) (sc a) d))] ++ Z) H := hP
      have hD : va_D A ([hq_o4 h wa sa ca ru, hq_ai wa (G 0) n wt, hq_al sa (G 1) n (vp_updL su a (hq_s1 (su a) d)), hq_al ca (G 1) n (vp_updL sc a (hq_c1c (wt a) (su a) (sc a) d))] ++ Z) := hD
      refine lv_l2i (v := Int64.toInt32 (f_H_clip (((-5000) * ((hq_c1c (wt a) (su a) (sc a) d) + 10)) / (100 + (hq_root (hq_s1 (su a) d)))) 100000000)) hx hb d_Table_moveByRule1_172 rfl ?_
      refine hq_iast (j := a) hx hb hK hP hD hS 1 rfl (by omega) (by omega) d_Table_moveByRule1_173 (fun H locs hP hD hS => ?_)
      have hP : va_P D hq_cl ([hq_o4 h wa sa ca ru, hq_ai wa (G 0) n (upd wt a (Int64.toInt32 (f_H_clip (((-5000) * ((hq_c1c (wt a) (su a) (sc a) d) + 10)) / (100 + (hq_root (hq_s1 (su a) d)))) 100000000))), hq_al sa (G 1) n (vp_updL su a (hq_s1 (su a) d)), hq_al ca (G 1) n (vp_updL sc a (hq_c1c (wt a) (su a) (sc a) d))] ++ Z) H := hP
      have hD : va_D A ([hq_o4 h wa sa ca ru, hq_ai wa (G 0) n (upd wt a (Int64.toInt32 (f_H_clip (((-5000) * ((hq_c1c (wt a) (su a) (sc a) d) + 10)) / (100 + (hq_root (hq_s1 (su a) d)))) 100000000))), hq_al sa (G 1) n (vp_updL su a (hq_s1 (su a) d)), hq_al ca (G 1) n (vp_updL sc a (hq_c1c (wt a) (su a) (sc a) d))] ++ Z) := hD
      have e9_0 : (upd wt a (hq_c1w (wt a) (su a) (sc a) d)) = (upd wt a (Int64.toInt32 (f_H_clip (((-5000) * ((hq_c1c (wt a) (su a) (sc a) d) + 10)) / (100 + (hq_root (hq_s1 (su a) d)))) 100000000))) := by rw [hq_c1w, if_pos c99, if_pos c120]
      have hP : va_P D hq_cl ([hq_o4 h wa sa ca ru, hq_ai wa (G 0) n (upd wt a (hq_c1w (wt a) (su a) (sc a) d)), hq_al sa (G 1) n (vp_updL su a (hq_s1 (su a) d)), hq_al ca (G 1) n (vp_updL sc a (hq_c1c (wt a) (su a) (sc a) d))] ++ Z) H := by rw [e9_0]; exact hP
      have hD : va_D A ([hq_o4 h wa sa ca ru, hq_ai wa (G 0) n (upd wt a (hq_c1w (wt a) (su a) (sc a) d)), hq_al sa (G 1) n (vp_updL su a (hq_s1 (su a) d)), hq_al ca (G 1) n (vp_updL sc a (hq_c1c (wt a) (su a) (sc a) d))] ++ Z) := by rw [e9_0]; exact hD
      exact hret () H locs 174 ls d_Table_moveByRule1_174 (trivial) hP hD hS
    · -- 120 not taken
      have c120 : ¬ (hq_c1c (wt a) (su a) (sc a) d) ≤ 0 := fun h => c120 ((lg_cmp_le (hq_c1c (wt a) (su a) (sc a) d) 0).mpr h)
      refine lv_aload_n hx hb d_Table_moveByRule1_123 rfl (lv_at hl 3 rfl) ?_
      refine va_get (D := D) (ci := 4) (v := .ref ca) (C := R_Table) (T := F_Table) (N := 4) hx hb hts uw_Table hown hK hP 0 rfl rfl 2 (by decide) (hts _ fl_Table_19) (fun _ h9 => h9) rfl d_Table_moveByRule1_124 ?_
      refine lv_iload_n hx hb d_Table_moveByRule1_127 rfl (lv_at hl 4 rfl) ?_
      refine hq_lald (j := a) hx hb hK hP 3 rfl (by omega) (by omega) d_Table_moveByRule1_128 ?_
      refine hq_topl (x' := hq_c1c (wt a) (su a) (sc a) d) (pk_uLs) ?_
      refine lv_ldc2 (v := 10) hx hb hown (hts _ kl_Table_86) d_Table_moveByRule1_129 ?_
      refine lv_lsub hx hb d_Table_moveByRule1_132 ?_
      refine lv_goto (tgt := 146) hx hb d_Table_moveByRule1_133 rfl ?_
      refine lv_lstore (nL := 12) (lv' := [(10, .long ((hq_c1c (wt a) (su a) (sc a) d) - 10)), (8, .long ((((hq_root (hq_s1 (su a) d)) - (hq_root (su a))) * (Int32.toInt64 (wt a))) / 5000)), (6, .long (hq_root (hq_s1 (su a) d))), (4, .long (hq_root (su a))), (0, .ref h), (1, .int (nI a)), (2, .long d)]) hx hb d_Table_moveByRule1_146 hl (by decide) rfl (fun ls hl => ?_)
      refine lv_aload_n hx hb d_Table_moveByRule1_148 rfl (lv_at hl 4 rfl) ?_
      refine va_get (D := D) (ci := 4) (v := .ref wa) (C := R_Table) (T := F_Table) (N := 4) hx hb hts uw_Table hown hK hP 0 rfl rfl 0 (by decide) (hts _ fl_Table_9) (fun _ h9 => h9) rfl d_Table_moveByRule1_149 ?_
      refine lv_iload_n hx hb d_Table_moveByRule1_152 rfl (lv_at hl 5 rfl) ?_
      refine lv_ldc2 (v := (-5000)) hx hb hown (hts _ kl_Table_88) d_Table_moveByRule1_153 ?_
      refine lv_lload hx hb d_Table_moveByRule1_156 (lv_at hl 0 rfl) ?_
      refine lv_lmul hx hb d_Table_moveByRule1_158 ?_
      refine lv_ldc2 (v := 100) hx hb hown (hts _ kl_Table_55) d_Table_moveByRule1_159 ?_
      refine lv_lload hx hb d_Table_moveByRule1_162 (lv_at hl 2 rfl) ?_
      refine lv_ladd hx hb d_Table_moveByRule1_164 ?_
      refine lv_ldiv hx hb d_Table_moveByRule1_165 (hq_den1_ne (hq_root_in2 (hq_s1_in hs0 hs1 hd0 hd1).2).1 (hq_root_in2 (hq_s1_in hs0 hs1 hd0 hd1).2).2) ?_
      refine lv_ldc2 (v := 100000000) hx hb hown (hts _ kl_Table_78) d_Table_moveByRule1_166 ?_
      have hPc : va_P D hq_cl ([] ++ ([hq_o4 h wa sa ca ru, hq_ai wa (G 0) n wt, hq_al sa (G 1) n (vp_updL su a (hq_s1 (su a) d)), hq_al ca (G 1) n (vp_updL sc a (hq_c1c (wt a) (su a) (sc a) d))] ++ Z)) H := hP
      have hDc : va_D A ([] ++ ([hq_o4 h wa sa ca ru, hq_ai wa (G 0) n wt, hq_al sa (G 1) n (vp_updL su a (hq_s1 (su a) d)), hq_al ca (G 1) n (vp_updL sc a (hq_c1c (wt a) (su a) (sc a) d))] ++ Z)) := hD
      refine hq_lF (hq_rSN (As := [.long (((-5000) * ((hq_c1c (wt a) (su a) (sc a) d) - 10)) / (100 + (hq_root (hq_s1 (su a) d)))), .long 100000000]) (rest := [.int (nI a), .ref wa]) hx hb hml hown hts (c_H_clip l D G A ([hq_o4 h wa sa ca ru, hq_ai wa (G 0) n wt, hq_al sa (G 1) n (vp_updL su a (hq_s1 (su a) d)), hq_al ca (G 1) n (vp_updL sc a (hq_c1c (wt a) (su a) (sc a) d))] ++ Z) (((-5000) * ((hq_c1c (wt a) (su a) (sc a) d) - 10)) / (100 + (hq_root (hq_s1 (su a) d)))) 100000000) yy_H_clip lk_Table_51 hA hK hN hS hPc hDc rfl hl.1 rfl (Nat.le_of_ble_eq_true rfl) d_Table_moveByRule1_169 ⟨by decide, by decide⟩ ⟨by decide, by decide⟩) hS (fun H locs hP hD hS => ?_)
      have hP : va_P D hq_cl ([hq_o4 h wa sa ca ru, hq_ai wa (G 0) n wt, hq_al sa (G 1) n (vp_updL su a (hq_s1 (su a) d)), hq_al ca (G 1) n (vp_updL sc a (hq_c1c (wt a) (su a) (sc a) d))] ++ Z) H := hP
      have hD : va_D A ([hq_o4 h wa sa ca ru, hq_ai wa (G 0) n wt, hq_al sa (G 1) n (vp_updL su a (hq_s1 (su a) d)), hq_al ca (G 1) n (vp_updL sc a (hq_c1c (wt a) (su a) (sc a) d))] ++ Z) := hD
      refine lv_l2i (v := Int64.toInt32 (f_H_clip (((-5000) * ((hq_c1c (wt a) (su a) (sc a) d) - 10)) / (100 + (hq_root (hq_s1 (su a) d)))) 100000000)) hx hb d_Table_moveByRule1_172 rfl ?_
      refine hq_iast (j := a) hx hb hK hP hD hS 1 rfl (by omega) (by omega) d_Table_moveByRule1_173 (fun H locs hP hD hS => ?_)
      have hP : va_P D hq_cl ([hq_o4 h wa sa ca ru, hq_ai wa (G 0) n (upd wt a (Int64.toInt32 (f_H_clip (((-5000) * ((hq_c1c (wt a) (su a) (sc a) d) - 10)) / (100 + (hq_root (hq_s1 (su a) d)))) 100000000))), hq_al sa (G 1) n (vp_updL su a (hq_s1 (su a) d)), hq_al ca (G 1) n (vp_updL sc a (hq_c1c (wt a) (su a) (sc a) d))] ++ Z) H := hP
      have hD : va_D A ([hq_o4 h wa sa ca ru, hq_ai wa (G 0) n (upd wt a (Int64.toInt32 (f_H_clip (((-5000) * ((hq_c1c (wt a) (su a) (sc a) d) - 10)) / (100 + (hq_root (hq_s1 (su a) d)))) 100000000))), hq_al sa (G 1) n (vp_updL su a (hq_s1 (su a) d)), hq_al ca (G 1) n (vp_updL sc a (hq_c1c (wt a) (su a) (sc a) d))] ++ Z) := hD
      have e9_0 : (upd wt a (hq_c1w (wt a) (su a) (sc a) d)) = (upd wt a (Int64.toInt32 (f_H_clip (((-5000) * ((hq_c1c (wt a) (su a) (sc a) d) - 10)) / (100 + (hq_root (hq_s1 (su a) d)))) 100000000))) := by rw [hq_c1w, if_pos c99, if_neg c120]
      have hP : va_P D hq_cl ([hq_o4 h wa sa ca ru, hq_ai wa (G 0) n (upd wt a (hq_c1w (wt a) (su a) (sc a) d)), hq_al sa (G 1) n (vp_updL su a (hq_s1 (su a) d)), hq_al ca (G 1) n (vp_updL sc a (hq_c1c (wt a) (su a) (sc a) d))] ++ Z) H := by rw [e9_0]; exact hP
      have hD : va_D A ([hq_o4 h wa sa ca ru, hq_ai wa (G 0) n (upd wt a (hq_c1w (wt a) (su a) (sc a) d)), hq_al sa (G 1) n (vp_updL su a (hq_s1 (su a) d)), hq_al ca (G 1) n (vp_updL sc a (hq_c1c (wt a) (su a) (sc a) d))] ++ Z) := by rw [e9_0]; exact hD
      exact hret () H locs 174 ls d_Table_moveByRule1_174 (trivial) hP hD hS
  · -- 99 not taken
    have c99 : ¬ 10 < (if 0 < (hq_c1c (wt a) (su a) (sc a) d) then (hq_c1c (wt a) (su a) (sc a) d) else -(hq_c1c (wt a) (su a) (sc a) d)) := fun h => c99 ((lg_cmp_gt (if 0 < (hq_c1c (wt a) (su a) (sc a) d) then (hq_c1c (wt a) (su a) (sc a) d) else -(hq_c1c (wt a) (su a) (sc a) d)) 10).mpr h)
    refine lv_aload_n hx hb d_Table_moveByRule1_102 rfl (lv_at hl 3 rfl) ?_
    refine va_get (D := D) (ci := 4) (v := .ref wa) (C := R_Table) (T := F_Table) (N := 4) hx hb hts uw_Table hown hK hP 0 rfl rfl 0 (by decide) (hts _ fl_Table_9) (fun _ h9 => h9) rfl d_Table_moveByRule1_103 ?_
    refine lv_iload_n hx hb d_Table_moveByRule1_106 rfl (lv_at hl 4 rfl) ?_
    refine lv_iconst (v := 0) hx hb d_Table_moveByRule1_107 (by decide) ?_
    refine hq_iast (j := a) hx hb hK hP hD hS 1 rfl (by omega) (by omega) d_Table_moveByRule1_108 (fun H locs hP hD hS => ?_)
    have hP : va_P D hq_cl ([hq_o4 h wa sa ca ru, hq_ai wa (G 0) n (upd wt a 0), hq_al sa (G 1) n (vp_updL su a (hq_s1 (su a) d)), hq_al ca (G 1) n (vp_updL sc a (hq_c1c (wt a) (su a) (sc a) d))] ++ Z) H := hP
    have hD : va_D A ([hq_o4 h wa sa ca ru, hq_ai wa (G 0) n (upd wt a 0), hq_al sa (G 1) n (vp_updL su a (hq_s1 (su a) d)), hq_al ca (G 1) n (vp_updL sc a (hq_c1c (wt a) (su a) (sc a) d))] ++ Z) := hD
    refine lv_goto (tgt := 174) hx hb d_Table_moveByRule1_109 rfl ?_
    have e9_0 : (upd wt a (hq_c1w (wt a) (su a) (sc a) d)) = (upd wt a 0) := by rw [hq_c1w, if_neg c99]
    have hP : va_P D hq_cl ([hq_o4 h wa sa ca ru, hq_ai wa (G 0) n (upd wt a (hq_c1w (wt a) (su a) (sc a) d)), hq_al sa (G 1) n (vp_updL su a (hq_s1 (su a) d)), hq_al ca (G 1) n (vp_updL sc a (hq_c1c (wt a) (su a) (sc a) d))] ++ Z) H := by rw [e9_0]; exact hP
    have hD : va_D A ([hq_o4 h wa sa ca ru, hq_ai wa (G 0) n (upd wt a (hq_c1w (wt a) (su a) (sc a) d)), hq_al sa (G 1) n (vp_updL su a (hq_s1 (su a) d)), hq_al ca (G 1) n (vp_updL sc a (hq_c1c (wt a) (su a) (sc a) d))] ++ Z) := by rw [e9_0]; exact hD
    exact hret () H locs 174 ls d_Table_moveByRule1_174 (trivial) hP hD hS
theorem d_Table_predict_0 : decode b_Table_predict 0 = .ok (.lconst 0, 1) := by decide +kernel
theorem d_Table_predict_1 : decode b_Table_predict 1 = .ok (.lstore_n 2, 1) := by decide +kernel
theorem d_Table_predict_2 : decode b_Table_predict 2 = .ok (.iconst 0, 1) := by decide +kernel
theorem d_Table_predict_3 : decode b_Table_predict 3 = .ok (.istore 4, 2) := by decide +kernel
theorem d_Table_predict_5 : decode b_Table_predict 5 = .ok (.iload 4, 2) := by decide +kernel
theorem d_Table_predict_7 : decode b_Table_predict 7 = .ok (.aload_n 1, 1) := by decide +kernel
theorem d_Table_predict_8 : decode b_Table_predict 8 = .ok (.getfield 32, 3) := by decide +kernel
theorem d_Table_predict_11 : decode b_Table_predict 11 = .ok (.if_icmp .ge (38), 3) := by decide +kernel
theorem d_Table_predict_14 : decode b_Table_predict 14 = .ok (.lload_n 2, 1) := by decide +kernel
theorem d_Table_predict_15 : decode b_Table_predict 15 = .ok (.aload_n 0, 1) := by decide +kernel
theorem d_Table_predict_16 : decode b_Table_predict 16 = .ok (.getfield 9, 3) := by decide +kernel
theorem d_Table_predict_19 : decode b_Table_predict 19 = .ok (.aload_n 0, 1) := by decide +kernel
theorem d_Table_predict_20 : decode b_Table_predict 20 = .ok (.aload_n 1, 1) := by decide +kernel
theorem d_Table_predict_21 : decode b_Table_predict 21 = .ok (.getfield 37, 3) := by decide +kernel
theorem d_Table_predict_24 : decode b_Table_predict 24 = .ok (.iload 4, 2) := by decide +kernel
theorem d_Table_predict_26 : decode b_Table_predict 26 = .ok (.iaload, 1) := by decide +kernel
theorem d_Table_predict_27 : decode b_Table_predict 27 = .ok (.invokevirtual 40, 3) := by decide +kernel
theorem d_Table_predict_30 : decode b_Table_predict 30 = .ok (.iaload, 1) := by decide +kernel
theorem d_Table_predict_31 : decode b_Table_predict 31 = .ok (.i2l, 1) := by decide +kernel
theorem d_Table_predict_32 : decode b_Table_predict 32 = .ok (.aload_n 1, 1) := by decide +kernel
theorem d_Table_predict_33 : decode b_Table_predict 33 = .ok (.getfield 44, 3) := by decide +kernel
theorem d_Table_predict_36 : decode b_Table_predict 36 = .ok (.iload 4, 2) := by decide +kernel
theorem d_Table_predict_38 : decode b_Table_predict 38 = .ok (.iaload, 1) := by decide +kernel
theorem d_Table_predict_39 : decode b_Table_predict 39 = .ok (.i2l, 1) := by decide +kernel
theorem d_Table_predict_40 : decode b_Table_predict 40 = .ok (.lmul, 1) := by decide +kernel
theorem d_Table_predict_41 : decode b_Table_predict 41 = .ok (.ladd, 1) := by decide +kernel
theorem d_Table_predict_42 : decode b_Table_predict 42 = .ok (.lstore_n 2, 1) := by decide +kernel
theorem d_Table_predict_43 : decode b_Table_predict 43 = .ok (.iinc 4 (1), 3) := by decide +kernel
theorem d_Table_predict_46 : decode b_Table_predict 46 = .ok (.goto (-41), 3) := by decide +kernel
theorem d_Table_predict_49 : decode b_Table_predict 49 = .ok (.lload_n 2, 1) := by decide +kernel
theorem d_Table_predict_50 : decode b_Table_predict 50 = .ok (.ldc2_w 47, 3) := by decide +kernel
theorem d_Table_predict_53 : decode b_Table_predict 53 = .ok (.ldiv, 1) := by decide +kernel
theorem d_Table_predict_54 : decode b_Table_predict 54 = .ok (.ldc2_w 49, 3) := by decide +kernel
theorem d_Table_predict_57 : decode b_Table_predict 57 = .ok (.invokestatic 51, 3) := by decide +kernel
theorem d_Table_predict_60 : decode b_Table_predict 60 = .ok (.l2i, 1) := by decide +kernel
theorem d_Table_predict_61 : decode b_Table_predict 61 = .ok (.ireturn, 1) := by decide +kernel
set_option maxHeartbeats 4000000 in
set_option maxRecDepth 100000 in
theorem c_Table_predict (l : Launch) (D : va_G) (G : Nat → ClassId) (A : Nat → Prop) (Z : va_W) (h : Nat) (wa : Nat) (sa : Nat) (ca : Nat) (n : Nat) (wt : Nat → Int32) (su : Nat → Int64) (sc : Nat → Int64) (ru : Int32) (z : Nat) (za : Nat) (zb : Nat) (th : Nat → Int32) (tv : Nat → Int32) (q : Nat) (hn : hq_pow n) (hq : q ≤ 247) : hq_FI l D G A y_Table_predict b_Table_predict 5 .int 2 [.ref h, .ref z] ([hq_o4 h wa sa ca ru, hq_ai wa (G 0) n wt, hq_al sa (G 1) n su, hq_al ca (G 1) n sc, hq_o6 z za zb (nI q), hq_ai za (G 0) 247 th, hq_ai zb (G 0) 247 tv] ++ Z) (hq_prd wt n th tv q) ([hq_o4 h wa sa ca ru, hq_ai wa (G 0) n wt, hq_al sa (G 1) n su, hq_al ca (G 1) n sc, hq_o6 z za zb (nI q), hq_ai za (G 0) 247 th, hq_ai zb (G 0) 247 tv] ++ Z) := by
  refine hq_bI (by decide) (Nat.le_of_ble_eq_true rfl) (fun _ _ _ => rfl) ?_
  intro p e s m args below meth c Q hx hb hml hts hown hA hK hN hret ls H locs hl hP hD hS
  have hown : s.vm.findClass "HashedLearner$Table" = some m.cls := hown
  have hl : lv_has ls 5 [(0, .ref h), (1, .ref z)] := hl
  have hn31 := hq_pow_lt hn
  refine lv_lconst (v := 0) hx hb d_Table_predict_0 (by decide) ?_
  refine lv_lstore_n (nL := 5) (lv' := [(2, .long 0), (0, .ref h), (1, .ref z)]) hx hb d_Table_predict_1 rfl hl (by decide) rfl (fun ls hl => ?_)
  refine lv_iconst (v := nI 0) hx hb d_Table_predict_2 (by decide) ?_
  refine lv_istore (nL := 5) (lv' := [(4, .int (nI 0)), (2, .long 0), (0, .ref h), (1, .ref z)]) hx hb d_Table_predict_3 hl (by decide) rfl (fun ls hl => ?_)
  have cut5 : ∀ (kz : Nat) (k : Nat) (v : Int64) (ls : Array Slot) (H : Heap) (locs : List Loc), q - k = kz → (k ≤ q) → (hq_prS wt n th tv 0 q 0 = hq_prS wt n th tv k (q - k) v) → lv_has ls 5 [(0, .ref h), (1, .ref z), (2, .long v), (4, .int (nI k))] → va_P D hq_cl ([hq_o4 h wa sa ca ru, hq_ai wa (G 0) n wt, hq_al sa (G 1) n su, hq_al ca (G 1) n sc, hq_o6 z za zb (nI q), hq_ai za (G 0) 247 th, hq_ai zb (G 0) 247 tv] ++ Z) H → va_D A ([hq_o4 h wa sa ca ru, hq_ai wa (G 0) n wt, hq_al sa (G 1) n su, hq_al ca (G 1) n sc, hq_o6 z za zb (nI q), hq_ai za (G 0) 247 th, hq_ai zb (G 0) 247 tv] ++ Z) → va_S A s.heap H locs → W p l e (hq_rm 2 0 0) s m args below meth c H locs 0 0 Q (F0 m 5 ls []) := by
    intro kz
    induction kz using Nat.strongRecOn with
    | ind kz ih =>
      intro k v ls H locs hkz hk hF hl hP hD hS
      subst hkz
      refine lv_iload hx hb d_Table_predict_5 (lv_at hl 3 rfl) ?_
      refine lv_aload_n hx hb d_Table_predict_7 rfl (lv_at hl 1 rfl) ?_
      refine va_get (D := D) (ci := 6) (v := .int (nI q)) (C := R_Terms) (T := F_Terms) (N := 3) hx hb hts uw_Terms hown hK hP 4 rfl rfl 2 (by decide) (hts _ fl_Table_32) (fun _ h9 => h9) rfl d_Table_predict_8 ?_
      refine lv_icmp_ge (tgt := 49) hx hb d_Table_predict_11 rfl (fun c11 => ?_) (fun c11 => ?_)
      · -- 11 taken
        have c11 : q ≤ k := (nI_leI (a := q) (b := k) (by omega) (by omega)).mp c11
        refine lv_lload_n hx hb d_Table_predict_49 rfl (lv_at hl 2 rfl) ?_
        refine lv_ldc2 (v := 10000) hx hb hown (hts _ kl_Table_47) d_Table_predict_50 ?_
        refine lv_ldiv hx hb d_Table_predict_53 (by decide) ?_
        refine lv_ldc2 (v := 1000000) hx hb hown (hts _ kl_Table_49) d_Table_predict_54 ?_
        have hPc : va_P D hq_cl ([] ++ ([hq_o4 h wa sa ca ru, hq_ai wa (G 0) n wt, hq_al sa (G 1) n su, hq_al ca (G 1) n sc, hq_o6 z za zb (nI q), hq_ai za (G 0) 247 th, hq_ai zb (G 0) 247 tv] ++ Z)) H := hP
        have hDc : va_D A ([] ++ ([hq_o4 h wa sa ca ru, hq_ai wa (G 0) n wt, hq_al sa (G 1) n su, hq_al ca (G 1) n sc, hq_o6 z za zb (nI q), hq_ai za (G 0) 247 th, hq_ai zb (G 0) 247 tv] ++ Z)) := hD
        refine hq_lF (hq_rSN (As := [.long (v / 10000), .long 1000000]) (rest := []) hx hb hml hown hts (c_H_clip l D G A ([hq_o4 h wa sa ca ru, hq_ai wa (G 0) n wt, hq_al sa (G 1) n su, hq_al ca (G 1) n sc, hq_o6 z za zb (nI q), hq_ai za (G 0) 247 th, hq_ai zb (G 0) 247 tv] ++ Z) (v / 10000) 1000000) yy_H_clip lk_Table_51 hA hK hN hS hPc hDc rfl hl.1 rfl (Nat.le_of_ble_eq_true rfl) d_Table_predict_57 ⟨by decide, by decide⟩ ⟨by decide, by decide⟩) hS (fun H locs hP hD hS => ?_)
        have hP : va_P D hq_cl ([hq_o4 h wa sa ca ru, hq_ai wa (G 0) n wt, hq_al sa (G 1) n su, hq_al ca (G 1) n sc, hq_o6 z za zb (nI q), hq_ai za (G 0) 247 th, hq_ai zb (G 0) 247 tv] ++ Z) H := hP
        have hD : va_D A ([hq_o4 h wa sa ca ru, hq_ai wa (G 0) n wt, hq_al sa (G 1) n su, hq_al ca (G 1) n sc, hq_o6 z za zb (nI q), hq_ai za (G 0) 247 th, hq_ai zb (G 0) 247 tv] ++ Z) := hD
        refine lv_l2i (v := Int64.toInt32 (f_H_clip (v / 10000) 1000000)) hx hb d_Table_predict_60 rfl ?_
        exact hret (Int64.toInt32 (f_H_clip (v / 10000) 1000000)) () H locs 61 ls d_Table_predict_61 (by rw [hq_prd, hF, hq_prS_end (wt := wt) (n := n) (th := th) (tv := tv) (k := k) (j := q) (by omega)]) hP hD hS
      · -- 11 not taken
        have c11 : ¬ q ≤ k := fun h => c11 ((nI_leI (a := q) (b := k) (by omega) (by omega)).mpr h)
        refine lv_lload_n hx hb d_Table_predict_14 rfl (lv_at hl 2 rfl) ?_
        refine lv_aload_n hx hb d_Table_predict_15 rfl (lv_at hl 0 rfl) ?_
        refine va_get (D := D) (ci := 4) (v := .ref wa) (C := R_Table) (T := F_Table) (N := 4) hx hb hts uw_Table hown hK hP 0 rfl rfl 0 (by decide) (hts _ fl_Table_9) (fun _ h9 => h9) rfl d_Table_predict_16 ?_
        refine lv_aload_n hx hb d_Table_predict_19 rfl (lv_at hl 0 rfl) ?_
        refine lv_aload_n hx hb d_Table_predict_20 rfl (lv_at hl 1 rfl) ?_
        refine va_get (D := D) (ci := 6) (v := .ref za) (C := R_Terms) (T := F_Terms) (N := 3) hx hb hts uw_Terms hown hK hP 4 rfl rfl 0 (by decide) (hts _ fl_Table_37) (fun _ h9 => h9) rfl d_Table_predict_21 ?_
        refine lv_iload hx hb d_Table_predict_24 (lv_at hl 3 rfl) ?_
        refine hq_iald (j := k) hx hb hK hP 5 rfl (by omega) (by omega) d_Table_predict_26 ?_
        have hPc : va_P D hq_cl ([hq_o4 h wa sa ca ru, hq_ai wa (G 0) n wt, hq_al sa (G 1) n su, hq_al ca (G 1) n sc] ++ ([hq_o6 z za zb (nI q), hq_ai za (G 0) 247 th, hq_ai zb (G 0) 247 tv] ++ Z)) H := hP
        have hDc : va_D A ([hq_o4 h wa sa ca ru, hq_ai wa (G 0) n wt, hq_al sa (G 1) n su, hq_al ca (G 1) n sc] ++ ([hq_o6 z za zb (nI q), hq_ai za (G 0) 247 th, hq_ai zb (G 0) 247 tv] ++ Z)) := hD
        refine hq_iF (hq_rV (As := [.int (th k)]) (rest := [.ref wa, .long v]) hx hb hml hown hts (c_Table_slotOf l D G A ([hq_o6 z za zb (nI q), hq_ai za (G 0) 247 th, hq_ai zb (G 0) 247 tv] ++ Z) h wa sa ca n wt su sc ru (th k) (by first | assumption | omega)) yy_Table_slotOf lk_Table_40 hA hK hN hS hPc hDc 0 4 rfl rfl rfl hl.1 rfl (Nat.le_of_ble_eq_true rfl) d_Table_predict_27 ⟨by decide, by decide⟩ ⟨by decide, by decide⟩) hS (fun H locs hP hD hS => ?_)
        have hP : va_P D hq_cl ([hq_o4 h wa sa ca ru, hq_ai wa (G 0) n wt, hq_al sa (G 1) n su, hq_al ca (G 1) n sc, hq_o6 z za zb (nI q), hq_ai za (G 0) 247 th, hq_ai zb (G 0) 247 tv] ++ Z) H := hP
        have hD : va_D A ([hq_o4 h wa sa ca ru, hq_ai wa (G 0) n wt, hq_al sa (G 1) n su, hq_al ca (G 1) n sc, hq_o6 z za zb (nI q), hq_ai za (G 0) 247 th, hq_ai zb (G 0) 247 tv] ++ Z) := hD
        refine hq_iald (j := hq_slot n (th k)) hx hb hK hP 1 rfl (hq_slot_lt hn _) (by omega) d_Table_predict_30 ?_
        refine lv_i2l (v := Int32.toInt64 (wt (hq_slot n (th k)))) hx hb d_Table_predict_31 rfl ?_
        refine lv_aload_n hx hb d_Table_predict_32 rfl (lv_at hl 1 rfl) ?_
        refine va_get (D := D) (ci := 6) (v := .ref zb) (C := R_Terms) (T := F_Terms) (N := 3) hx hb hts uw_Terms hown hK hP 4 rfl rfl 1 (by decide) (hts _ fl_Table_44) (fun _ h9 => h9) rfl d_Table_predict_33 ?_
        refine lv_iload hx hb d_Table_predict_36 (lv_at hl 3 rfl) ?_
        refine hq_iald (j := k) hx hb hK hP 6 rfl (by omega) (by omega) d_Table_predict_38 ?_
        refine lv_i2l (v := Int32.toInt64 (tv k)) hx hb d_Table_predict_39 rfl ?_
        refine lv_lmul hx hb d_Table_predict_40 ?_
        refine lv_ladd hx hb d_Table_predict_41 ?_
        refine lv_lstore_n (nL := 5) (lv' := [(2, .long (v + ((Int32.toInt64 (wt (hq_slot n (th k)))) * (Int32.toInt64 (tv k))))), (0, .ref h), (1, .ref z), (4, .int (nI k))]) hx hb d_Table_predict_42 rfl hl (by decide) rfl (fun ls hl => ?_)
        refine lv_iinc (nL := 5) (k := 3) (v := nI (k + 1)) (lv' := [(4, .int (nI (k + 1))), (2, .long (v + ((Int32.toInt64 (wt (hq_slot n (th k)))) * (Int32.toInt64 (tv k))))), (0, .ref h), (1, .ref z)]) hx hb d_Table_predict_43 hl rfl (nI_add k 1) (by decide) rfl (fun ls hl => ?_)
        refine lv_goto (tgt := 5) hx hb d_Table_predict_46 rfl ?_
        exact ih _ (by omega) (k + 1) (v + ((Int32.toInt64 (wt (hq_slot n (th k)))) * (Int32.toInt64 (tv k)))) ls H locs rfl (by first | assumption | omega) (hF.trans (hq_prS_go (by omega))) (lv_sub hl [2, 3, 1, 0] rfl) hP hD hS
  exact cut5 _ 0 0 ls H locs rfl (by first | assumption | omega) (rfl) (lv_sub hl [2, 3, 1, 0] rfl) hP hD hS
theorem d_Table_moveAll_0 : decode b_Table_moveAll 0 = .ok (.iconst 0, 1) := by decide +kernel
theorem d_Table_moveAll_1 : decode b_Table_moveAll 1 = .ok (.istore_n 3, 1) := by decide +kernel
theorem d_Table_moveAll_2 : decode b_Table_moveAll 2 = .ok (.iload_n 3, 1) := by decide +kernel
theorem d_Table_moveAll_3 : decode b_Table_moveAll 3 = .ok (.aload_n 1, 1) := by decide +kernel
theorem d_Table_moveAll_4 : decode b_Table_moveAll 4 = .ok (.getfield 32, 3) := by decide +kernel
theorem d_Table_moveAll_7 : decode b_Table_moveAll 7 = .ok (.if_icmp .ge (74), 3) := by decide +kernel
theorem d_Table_moveAll_10 : decode b_Table_moveAll 10 = .ok (.aload_n 1, 1) := by decide +kernel
theorem d_Table_moveAll_11 : decode b_Table_moveAll 11 = .ok (.getfield 44, 3) := by decide +kernel
theorem d_Table_moveAll_14 : decode b_Table_moveAll 14 = .ok (.iload_n 3, 1) := by decide +kernel
theorem d_Table_moveAll_15 : decode b_Table_moveAll 15 = .ok (.iaload, 1) := by decide +kernel
theorem d_Table_moveAll_16 : decode b_Table_moveAll 16 = .ok (.istore 4, 2) := by decide +kernel
theorem d_Table_moveAll_18 : decode b_Table_moveAll 18 = .ok (.iload_n 2, 1) := by decide +kernel
theorem d_Table_moveAll_19 : decode b_Table_moveAll 19 = .ok (.i2l, 1) := by decide +kernel
theorem d_Table_moveAll_20 : decode b_Table_moveAll 20 = .ok (.iload 4, 2) := by decide +kernel
theorem d_Table_moveAll_22 : decode b_Table_moveAll 22 = .ok (.i2l, 1) := by decide +kernel
theorem d_Table_moveAll_23 : decode b_Table_moveAll 23 = .ok (.lmul, 1) := by decide +kernel
theorem d_Table_moveAll_24 : decode b_Table_moveAll 24 = .ok (.ldc2_w 55, 3) := by decide +kernel
theorem d_Table_moveAll_27 : decode b_Table_moveAll 27 = .ok (.ldiv, 1) := by decide +kernel
theorem d_Table_moveAll_28 : decode b_Table_moveAll 28 = .ok (.lstore 5, 2) := by decide +kernel
theorem d_Table_moveAll_30 : decode b_Table_moveAll 30 = .ok (.aload_n 0, 1) := by decide +kernel
theorem d_Table_moveAll_31 : decode b_Table_moveAll 31 = .ok (.getfield 22, 3) := by decide +kernel
theorem d_Table_moveAll_34 : decode b_Table_moveAll 34 = .ok (.iconst 1, 1) := by decide +kernel
theorem d_Table_moveAll_35 : decode b_Table_moveAll 35 = .ok (.if_icmp .ne (22), 3) := by decide +kernel
theorem d_Table_moveAll_38 : decode b_Table_moveAll 38 = .ok (.aload_n 0, 1) := by decide +kernel
theorem d_Table_moveAll_39 : decode b_Table_moveAll 39 = .ok (.aload_n 0, 1) := by decide +kernel
theorem d_Table_moveAll_40 : decode b_Table_moveAll 40 = .ok (.aload_n 1, 1) := by decide +kernel
theorem d_Table_moveAll_41 : decode b_Table_moveAll 41 = .ok (.getfield 37, 3) := by decide +kernel
theorem d_Table_moveAll_44 : decode b_Table_moveAll 44 = .ok (.iload_n 3, 1) := by decide +kernel
theorem d_Table_moveAll_45 : decode b_Table_moveAll 45 = .ok (.iaload, 1) := by decide +kernel
theorem d_Table_moveAll_46 : decode b_Table_moveAll 46 = .ok (.invokevirtual 40, 3) := by decide +kernel
theorem d_Table_moveAll_49 : decode b_Table_moveAll 49 = .ok (.lload 5, 2) := by decide +kernel
theorem d_Table_moveAll_51 : decode b_Table_moveAll 51 = .ok (.invokevirtual 57, 3) := by decide +kernel
theorem d_Table_moveAll_54 : decode b_Table_moveAll 54 = .ok (.goto (21), 3) := by decide +kernel
theorem d_Table_moveAll_57 : decode b_Table_moveAll 57 = .ok (.aload_n 0, 1) := by decide +kernel
theorem d_Table_moveAll_58 : decode b_Table_moveAll 58 = .ok (.aload_n 0, 1) := by decide +kernel
theorem d_Table_moveAll_59 : decode b_Table_moveAll 59 = .ok (.aload_n 1, 1) := by decide +kernel
theorem d_Table_moveAll_60 : decode b_Table_moveAll 60 = .ok (.getfield 37, 3) := by decide +kernel
theorem d_Table_moveAll_63 : decode b_Table_moveAll 63 = .ok (.iload_n 3, 1) := by decide +kernel
theorem d_Table_moveAll_64 : decode b_Table_moveAll 64 = .ok (.iaload, 1) := by decide +kernel
theorem d_Table_moveAll_65 : decode b_Table_moveAll 65 = .ok (.invokevirtual 40, 3) := by decide +kernel
theorem d_Table_moveAll_68 : decode b_Table_moveAll 68 = .ok (.iload 4, 2) := by decide +kernel
theorem d_Table_moveAll_70 : decode b_Table_moveAll 70 = .ok (.lload 5, 2) := by decide +kernel
theorem d_Table_moveAll_72 : decode b_Table_moveAll 72 = .ok (.invokevirtual 61, 3) := by decide +kernel
theorem d_Table_moveAll_75 : decode b_Table_moveAll 75 = .ok (.iinc 3 (1), 3) := by decide +kernel
theorem d_Table_moveAll_78 : decode b_Table_moveAll 78 = .ok (.goto (-76), 3) := by decide +kernel
theorem d_Table_moveAll_81 : decode b_Table_moveAll 81 = .ok (.return_, 1) := by decide +kernel
set_option maxHeartbeats 4000000 in
set_option maxRecDepth 100000 in
theorem c_Table_moveAll (l : Launch) (D : va_G) (G : Nat → ClassId) (A : Nat → Prop) (Z : va_W) (h : Nat) (wa : Nat) (sa : Nat) (ca : Nat) (n : Nat) (wt : Nat → Int32) (su : Nat → Int64) (sc : Nat → Int64) (ru : Int32) (z : Nat) (za : Nat) (zb : Nat) (th : Nat → Int32) (tv : Nat → Int32) (q : Nat) (gr : Int32) (hn : hq_pow n) (hq : q ≤ 247) (hg0 : -100000 ≤ gr.toInt) (hg1 : gr.toInt ≤ 100000) (htv : ∀ k, k < q → -99999 ≤ (tv k).toInt ∧ (tv k).toInt ≤ 99999) (hI : hq_inv ru n su sc) : hq_FV l D G A y_Table_moveAll b_Table_moveAll 7 3 [.ref h, .ref z, .int gr] ([hq_o4 h wa sa ca ru, hq_ai wa (G 0) n wt, hq_al sa (G 1) n su, hq_al ca (G 1) n sc, hq_o6 z za zb (nI q), hq_ai za (G 0) 247 th, hq_ai zb (G 0) 247 tv] ++ Z) ([hq_o4 h wa sa ca ru, hq_ai wa (G 0) n ((hq_mv ru n th tv gr 0 q (wt, su, sc)).1), hq_al sa (G 1) n ((hq_mv ru n th tv gr 0 q (wt, su, sc)).2.1), hq_al ca (G 1) n ((hq_mv ru n th tv gr 0 q (wt, su, sc)).2.2), hq_o6 z za zb (nI q), hq_ai za (G 0) 247 th, hq_ai zb (G 0) 247 tv] ++ Z) := by
  refine hq_bV (by decide) (Nat.le_of_ble_eq_true rfl) ?_
  intro p e s m args below meth c Q hx hb hml hts hown hA hK hN hin hret ls H locs hl hP hD hS
  have hown : s.vm.findClass "HashedLearner$Table" = some m.cls := hown
  have hl : lv_has ls 7 [(0, .ref h), (1, .ref z), (2, .int gr)] := hl
  have hn31 := hq_pow_lt hn
  refine lv_iconst (v := nI 0) hx hb d_Table_moveAll_0 (by decide) ?_
  refine lv_istore_n (nL := 7) (lv' := [(3, .int (nI 0)), (0, .ref h), (1, .ref z), (2, .int gr)]) hx hb d_Table_moveAll_1 rfl hl (by decide) rfl (fun ls hl => ?_)
  have cut2 : ∀ (kz : Nat) (k : Nat) (w1 : Nat → Int32) (s1 : Nat → Int64) (c1 : Nat → Int64) (ls : Array Slot) (H : Heap) (locs : List Loc), q - k = kz → (k ≤ q) → (hq_mv ru n th tv gr 0 q (wt, su, sc) = hq_mv ru n th tv gr k (q - k) (w1, s1, c1)) → (hq_inv ru n s1 c1) → lv_has ls 7 [(0, .ref h), (1, .ref z), (2, .int gr), (3, .int (nI k))] → va_P D hq_cl ([hq_o4 h wa sa ca ru, hq_ai wa (G 0) n w1, hq_al sa (G 1) n s1, hq_al ca (G 1) n c1, hq_o6 z za zb (nI q), hq_ai za (G 0) 247 th, hq_ai zb (G 0) 247 tv] ++ Z) H → va_D A ([hq_o4 h wa sa ca ru, hq_ai wa (G 0) n w1, hq_al sa (G 1) n s1, hq_al ca (G 1) n c1, hq_o6 z za zb (nI q), hq_ai za (G 0) 247 th, hq_ai zb (G 0) 247 tv] ++ Z) → va_S A s.heap H locs → W p l e (hq_rm 3 0 0) s m args below meth c H locs 0 0 Q (F0 m 2 ls []) := by
    intro kz
    induction kz using Nat.strongRecOn with
    | ind kz ih =>
      intro k w1 s1 c1 ls H locs hkz hk hF hJ hl hP hD hS
      subst hkz
      refine lv_iload_n hx hb d_Table_moveAll_2 rfl (lv_at hl 3 rfl) ?_
      refine lv_aload_n hx hb d_Table_moveAll_3 rfl (lv_at hl 1 rfl) ?_
      refine va_get (D := D) (ci := 6) (v := .int (nI q)) (C := R_Terms) (T := F_Terms) (N := 3) hx hb hts uw_Terms hown hK hP 4 rfl rfl 2 (by decide) (hts _ fl_Table_32) (fun _ h9 => h9) rfl d_Table_moveAll_4 ?_
      refine lv_icmp_ge (tgt := 81) hx hb d_Table_moveAll_7 rfl (fun c7 => ?_) (fun c7 => ?_)
      · -- 7 taken
        have c7 : q ≤ k := (nI_leI (a := q) (b := k) (by omega) (by omega)).mp c7
        have e9_0 : ((hq_mv ru n th tv gr 0 q (wt, su, sc)).1) = w1 := by rw [hF, hq_mv_end (by omega)]
        have e9_1 : ((hq_mv ru n th tv gr 0 q (wt, su, sc)).2.1) = s1 := by rw [hF, hq_mv_end (by omega)]
        have e9_2 : ((hq_mv ru n th tv gr 0 q (wt, su, sc)).2.2) = c1 := by rw [hF, hq_mv_end (by omega)]
        have hP : va_P D hq_cl ([hq_o4 h wa sa ca ru, hq_ai wa (G 0) n ((hq_mv ru n th tv gr 0 q (wt, su, sc)).1), hq_al sa (G 1) n ((hq_mv ru n th tv gr 0 q (wt, su, sc)).2.1), hq_al ca (G 1) n ((hq_mv ru n th tv gr 0 q (wt, su, sc)).2.2), hq_o6 z za zb (nI q), hq_ai za (G 0) 247 th, hq_ai zb (G 0) 247 tv] ++ Z) H := by rw [e9_0, e9_1, e9_2]; exact hP
        have hD : va_D A ([hq_o4 h wa sa ca ru, hq_ai wa (G 0) n ((hq_mv ru n th tv gr 0 q (wt, su, sc)).1), hq_al sa (G 1) n ((hq_mv ru n th tv gr 0 q (wt, su, sc)).2.1), hq_al ca (G 1) n ((hq_mv ru n th tv gr 0 q (wt, su, sc)).2.2), hq_o6 z za zb (nI q), hq_ai za (G 0) 247 th, hq_ai zb (G 0) 247 tv] ++ Z) := by rw [e9_0, e9_1, e9_2]; exact hD
        exact hret () H locs 81 ls d_Table_moveAll_81 (trivial) hP hD hS
      · -- 7 not taken
        have c7 : ¬ q ≤ k := fun h => c7 ((nI_leI (a := q) (b := k) (by omega) (by omega)).mpr h)
        refine lv_aload_n hx hb d_Table_moveAll_10 rfl (lv_at hl 1 rfl) ?_
        refine va_get (D := D) (ci := 6) (v := .ref zb) (C := R_Terms) (T := F_Terms) (N := 3) hx hb hts uw_Terms hown hK hP 4 rfl rfl 1 (by decide) (hts _ fl_Table_44) (fun _ h9 => h9) rfl d_Table_moveAll_11 ?_
        refine lv_iload_n hx hb d_Table_moveAll_14 rfl (lv_at hl 3 rfl) ?_
        refine hq_iald (j := k) hx hb hK hP 6 rfl (by omega) (by omega) d_Table_moveAll_15 ?_
        refine lv_istore (nL := 7) (lv' := [(4, .int (tv k)), (0, .ref h), (1, .ref z), (2, .int gr), (3, .int (nI k))]) hx hb d_Table_moveAll_16 hl (by decide) rfl (fun ls hl => ?_)
        refine lv_iload_n hx hb d_Table_moveAll_18 rfl (lv_at hl 3 rfl) ?_
        refine lv_i2l (v := Int32.toInt64 gr) hx hb d_Table_moveAll_19 rfl ?_
        refine lv_iload hx hb d_Table_moveAll_20 (lv_at hl 0 rfl) ?_
        refine lv_i2l (v := Int32.toInt64 (tv k)) hx hb d_Table_moveAll_22 rfl ?_
        refine lv_lmul hx hb d_Table_moveAll_23 ?_
        refine lv_ldc2 (v := 100) hx hb hown (hts _ kl_Table_55) d_Table_moveAll_24 ?_
        refine lv_ldiv hx hb d_Table_moveAll_27 (by decide) ?_
        refine lv_lstore (nL := 7) (lv' := [(5, .long (((Int32.toInt64 gr) * (Int32.toInt64 (tv k))) / 100)), (4, .int (tv k)), (0, .ref h), (1, .ref z), (2, .int gr), (3, .int (nI k))]) hx hb d_Table_moveAll_28 hl (by decide) rfl (fun ls hl => ?_)
        have hsl := hq_slot_lt hn (th k)
        have hx9 := htv k (by omega)
        have hd9 := hq_d_in hg0 hg1 hx9.1 hx9.2
        have hj9 := hJ _ hsl
        refine lv_aload_n hx hb d_Table_moveAll_30 rfl (lv_at hl 2 rfl) ?_
        refine va_get (D := D) (ci := 4) (v := .int ru) (C := R_Table) (T := F_Table) (N := 4) hx hb hts uw_Table hown hK hP 0 rfl rfl 3 (by decide) (hts _ fl_Table_22) (fun _ h9 => h9) rfl d_Table_moveAll_31 ?_
        refine lv_iconst (v := 1) hx hb d_Table_moveAll_34 (by decide) ?_
        refine lv_icmp_ne (tgt := 57) hx hb d_Table_moveAll_35 rfl (fun c35 => ?_) (fun c35 => ?_)
        · -- 35 taken
          have c35 : ¬ ru = 1 := c35
          refine lv_aload_n hx hb d_Table_moveAll_57 rfl (lv_at hl 2 rfl) ?_
          refine lv_aload_n hx hb d_Table_moveAll_58 rfl (lv_at hl 2 rfl) ?_
          refine lv_aload_n hx hb d_Table_moveAll_59 rfl (lv_at hl 3 rfl) ?_
          refine va_get (D := D) (ci := 6) (v := .ref za) (C := R_Terms) (T := F_Terms) (N := 3) hx hb hts uw_Terms hown hK hP 4 rfl rfl 0 (by decide) (hts _ fl_Table_37) (fun _ h9 => h9) rfl d_Table_moveAll_60 ?_
          refine lv_iload_n hx hb d_Table_moveAll_63 rfl (lv_at hl 5 rfl) ?_
          refine hq_iald (j := k) hx hb hK hP 5 rfl (by omega) (by omega) d_Table_moveAll_64 ?_
          have hPc : va_P D hq_cl ([hq_o4 h wa sa ca ru, hq_ai wa (G 0) n w1, hq_al sa (G 1) n s1, hq_al ca (G 1) n c1] ++ ([hq_o6 z za zb (nI q), hq_ai za (G 0) 247 th, hq_ai zb (G 0) 247 tv] ++ Z)) H := hP
          have hDc : va_D A ([hq_o4 h wa sa ca ru, hq_ai wa (G 0) n w1, hq_al sa (G 1) n s1, hq_al ca (G 1) n c1] ++ ([hq_o6 z za zb (nI q), hq_ai za (G 0) 247 th, hq_ai zb (G 0) 247 tv] ++ Z)) := hD
          refine hq_iF (hq_rV (As := [.int (th k)]) (rest := [.ref h]) hx hb hml hown hts (c_Table_slotOf l D G A ([hq_o6 z za zb (nI q), hq_ai za (G 0) 247 th, hq_ai zb (G 0) 247 tv] ++ Z) h wa sa ca n w1 s1 c1 ru (th k) (by first | assumption | omega)) yy_Table_slotOf lk_Table_40 hA hK hN hS hPc hDc 0 4 rfl rfl rfl hl.1 rfl (Nat.le_of_ble_eq_true rfl) d_Table_moveAll_65 ⟨by decide, by decide⟩ ⟨by decide, by decide⟩) hS (fun H locs hP hD hS => ?_)
          have hP : va_P D hq_cl ([hq_o4 h wa sa ca ru, hq_ai wa (G 0) n w1, hq_al sa (G 1) n s1, hq_al ca (G 1) n c1, hq_o6 z za zb (nI q), hq_ai za (G 0) 247 th, hq_ai zb (G 0) 247 tv] ++ Z) H := hP
          have hD : va_D A ([hq_o4 h wa sa ca ru, hq_ai wa (G 0) n w1, hq_al sa (G 1) n s1, hq_al ca (G 1) n c1, hq_o6 z za zb (nI q), hq_ai za (G 0) 247 th, hq_ai zb (G 0) 247 tv] ++ Z) := hD
          refine lv_iload hx hb d_Table_moveAll_68 (lv_at hl 1 rfl) ?_
          refine lv_lload hx hb d_Table_moveAll_70 (lv_at hl 0 rfl) ?_
          have hPc : va_P D hq_cl ([hq_o4 h wa sa ca ru, hq_ai wa (G 0) n w1, hq_al sa (G 1) n s1, hq_al ca (G 1) n c1] ++ ([hq_o6 z za zb (nI q), hq_ai za (G 0) 247 th, hq_ai zb (G 0) 247 tv] ++ Z)) H := hP
          have hDc : va_D A ([hq_o4 h wa sa ca ru, hq_ai wa (G 0) n w1, hq_al sa (G 1) n s1, hq_al ca (G 1) n c1] ++ ([hq_o6 z za zb (nI q), hq_ai za (G 0) 247 th, hq_ai zb (G 0) 247 tv] ++ Z)) := hD
          refine hq_vF (hq_rV (As := [.int (nI (hq_slot n (th k))), .int (tv k), .long (((Int32.toInt64 gr) * (Int32.toInt64 (tv k))) / 100)]) (rest := []) hx hb hml hown hts (c_Table_moveByRule0 l D G A ([hq_o6 z za zb (nI q), hq_ai za (G 0) 247 th, hq_ai zb (G 0) 247 tv] ++ Z) h wa sa ca n w1 s1 c1 ru (hq_slot n (th k)) (tv k) (((Int32.toInt64 gr) * (Int32.toInt64 (tv k))) / 100) (by first | assumption | omega) (hsl) (hj9.1) (hj9.2.1) (hd9.1) (hd9.2) ((hj9.2.2 c35).1) ((hj9.2.2 c35).2) (hx9.1) (hx9.2)) yy_Table_moveByRule0 lk_Table_61 hA hK hN hS hPc hDc 0 4 rfl rfl rfl hl.1 rfl (Nat.le_of_ble_eq_true rfl) d_Table_moveAll_72 ⟨by decide, by decide⟩ ⟨by decide, by decide⟩) hS (fun H locs hP hD hS => ?_)
          have hP : va_P D hq_cl ([hq_o4 h wa sa ca ru, hq_ai wa (G 0) n (if (tv k) = 0 then w1 else upd w1 (hq_slot n (th k)) (hq_c0w (w1 (hq_slot n (th k))) (s1 (hq_slot n (th k))) (c1 (hq_slot n (th k))) (tv k) (((Int32.toInt64 gr) * (Int32.toInt64 (tv k))) / 100))), hq_al sa (G 1) n (if (tv k) = 0 then s1 else vp_updL s1 (hq_slot n (th k)) (hq_s1 (s1 (hq_slot n (th k))) (((Int32.toInt64 gr) * (Int32.toInt64 (tv k))) / 100))), hq_al ca (G 1) n (if (tv k) = 0 then c1 else vp_updL c1 (hq_slot n (th k)) (hq_c0c (c1 (hq_slot n (th k))) (tv k))), hq_o6 z za zb (nI q), hq_ai za (G 0) 247 th, hq_ai zb (G 0) 247 tv] ++ Z) H := hP
          have hD : va_D A ([hq_o4 h wa sa ca ru, hq_ai wa (G 0) n (if (tv k) = 0 then w1 else upd w1 (hq_slot n (th k)) (hq_c0w (w1 (hq_slot n (th k))) (s1 (hq_slot n (th k))) (c1 (hq_slot n (th k))) (tv k) (((Int32.toInt64 gr) * (Int32.toInt64 (tv k))) / 100))), hq_al sa (G 1) n (if (tv k) = 0 then s1 else vp_updL s1 (hq_slot n (th k)) (hq_s1 (s1 (hq_slot n (th k))) (((Int32.toInt64 gr) * (Int32.toInt64 (tv k))) / 100))), hq_al ca (G 1) n (if (tv k) = 0 then c1 else vp_updL c1 (hq_slot n (th k)) (hq_c0c (c1 (hq_slot n (th k))) (tv k))), hq_o6 z za zb (nI q), hq_ai za (G 0) 247 th, hq_ai zb (G 0) 247 tv] ++ Z) := hD
          refine lv_iinc (nL := 7) (k := 5) (v := nI (k + 1)) (lv' := [(3, .int (nI (k + 1))), (5, .long (((Int32.toInt64 gr) * (Int32.toInt64 (tv k))) / 100)), (4, .int (tv k)), (0, .ref h), (1, .ref z), (2, .int gr)]) hx hb d_Table_moveAll_75 hl rfl (nI_add k 1) (by decide) rfl (fun ls hl => ?_)
          refine lv_goto (tgt := 2) hx hb d_Table_moveAll_78 rfl ?_
          exact ih _ (by omega) (k + 1) (if (tv k) = 0 then w1 else upd w1 (hq_slot n (th k)) (hq_c0w (w1 (hq_slot n (th k))) (s1 (hq_slot n (th k))) (c1 (hq_slot n (th k))) (tv k) (((Int32.toInt64 gr) * (Int32.toInt64 (tv k))) / 100))) (if (tv k) = 0 then s1 else vp_updL s1 (hq_slot n (th k)) (hq_s1 (s1 (hq_slot n (th k))) (((Int32.toInt64 gr) * (Int32.toInt64 (tv k))) / 100))) (if (tv k) = 0 then c1 else vp_updL c1 (hq_slot n (th k)) (hq_c0c (c1 (hq_slot n (th k))) (tv k))) ls H locs rfl (by first | assumption | omega) (hF.trans ((hq_mv_go (by omega)).trans (by first | (rw [hq_mv1, if_pos c35]; done) | (rw [hq_mv1, if_neg c35]; done)))) (by first | exact hq_inv_r1 hJ hsl hd9.1 hd9.2 c35 | exact hq_inv_r0 hJ hsl hd9.1 hd9.2 c35 hx9.1 hx9.2) (lv_sub hl [3, 4, 5, 0] rfl) hP hD hS
        · -- 35 not taken
          have c35 : ru = 1 := c35
          refine lv_aload_n hx hb d_Table_moveAll_38 rfl (lv_at hl 2 rfl) ?_
          refine lv_aload_n hx hb d_Table_moveAll_39 rfl (lv_at hl 2 rfl) ?_
          refine lv_aload_n hx hb d_Table_moveAll_40 rfl (lv_at hl 3 rfl) ?_
          refine va_get (D := D) (ci := 6) (v := .ref za) (C := R_Terms) (T := F_Terms) (N := 3) hx hb hts uw_Terms hown hK hP 4 rfl rfl 0 (by decide) (hts _ fl_Table_37) (fun _ h9 => h9) rfl d_Table_moveAll_41 ?_
          refine lv_iload_n hx hb d_Table_moveAll_44 rfl (lv_at hl 5 rfl) ?_
          refine hq_iald (j := k) hx hb hK hP 5 rfl (by omega) (by omega) d_Table_moveAll_45 ?_
          have hPc : va_P D hq_cl ([hq_o4 h wa sa ca ru, hq_ai wa (G 0) n w1, hq_al sa (G 1) n s1, hq_al ca (G 1) n c1] ++ ([hq_o6 z za zb (nI q), hq_ai za (G 0) 247 th, hq_ai zb (G 0) 247 tv] ++ Z)) H := hP
          have hDc : va_D A ([hq_o4 h wa sa ca ru, hq_ai wa (G 0) n w1, hq_al sa (G 1) n s1, hq_al ca (G 1) n c1] ++ ([hq_o6 z za zb (nI q), hq_ai za (G 0) 247 th, hq_ai zb (G 0) 247 tv] ++ Z)) := hD
          refine hq_iF (hq_rV (As := [.int (th k)]) (rest := [.ref h]) hx hb hml hown hts (c_Table_slotOf l D G A ([hq_o6 z za zb (nI q), hq_ai za (G 0) 247 th, hq_ai zb (G 0) 247 tv] ++ Z) h wa sa ca n w1 s1 c1 ru (th k) (by first | assumption | omega)) yy_Table_slotOf lk_Table_40 hA hK hN hS hPc hDc 0 4 rfl rfl rfl hl.1 rfl (Nat.le_of_ble_eq_true rfl) d_Table_moveAll_46 ⟨by decide, by decide⟩ ⟨by decide, by decide⟩) hS (fun H locs hP hD hS => ?_)
          have hP : va_P D hq_cl ([hq_o4 h wa sa ca ru, hq_ai wa (G 0) n w1, hq_al sa (G 1) n s1, hq_al ca (G 1) n c1, hq_o6 z za zb (nI q), hq_ai za (G 0) 247 th, hq_ai zb (G 0) 247 tv] ++ Z) H := hP
          have hD : va_D A ([hq_o4 h wa sa ca ru, hq_ai wa (G 0) n w1, hq_al sa (G 1) n s1, hq_al ca (G 1) n c1, hq_o6 z za zb (nI q), hq_ai za (G 0) 247 th, hq_ai zb (G 0) 247 tv] ++ Z) := hD
          refine lv_lload hx hb d_Table_moveAll_49 (lv_at hl 0 rfl) ?_
          have hPc : va_P D hq_cl ([hq_o4 h wa sa ca ru, hq_ai wa (G 0) n w1, hq_al sa (G 1) n s1, hq_al ca (G 1) n c1] ++ ([hq_o6 z za zb (nI q), hq_ai za (G 0) 247 th, hq_ai zb (G 0) 247 tv] ++ Z)) H := hP
          have hDc : va_D A ([hq_o4 h wa sa ca ru, hq_ai wa (G 0) n w1, hq_al sa (G 1) n s1, hq_al ca (G 1) n c1] ++ ([hq_o6 z za zb (nI q), hq_ai za (G 0) 247 th, hq_ai zb (G 0) 247 tv] ++ Z)) := hD
          refine hq_vF (hq_rV (As := [.int (nI (hq_slot n (th k))), .long (((Int32.toInt64 gr) * (Int32.toInt64 (tv k))) / 100)]) (rest := []) hx hb hml hown hts (c_Table_moveByRule1 l D G A ([hq_o6 z za zb (nI q), hq_ai za (G 0) 247 th, hq_ai zb (G 0) 247 tv] ++ Z) h wa sa ca n w1 s1 c1 ru (hq_slot n (th k)) (((Int32.toInt64 gr) * (Int32.toInt64 (tv k))) / 100) (by first | assumption | omega) (hsl) (hj9.1) (hj9.2.1) (hd9.1) (hd9.2)) yy_Table_moveByRule1 lk_Table_57 hA hK hN hS hPc hDc 0 4 rfl rfl rfl hl.1 rfl (Nat.le_of_ble_eq_true rfl) d_Table_moveAll_51 ⟨by decide, by decide⟩ ⟨by decide, by decide⟩) hS (fun H locs hP hD hS => ?_)
          have hP : va_P D hq_cl ([hq_o4 h wa sa ca ru, hq_ai wa (G 0) n (upd w1 (hq_slot n (th k)) (hq_c1w (w1 (hq_slot n (th k))) (s1 (hq_slot n (th k))) (c1 (hq_slot n (th k))) (((Int32.toInt64 gr) * (Int32.toInt64 (tv k))) / 100))), hq_al sa (G 1) n (vp_updL s1 (hq_slot n (th k)) (hq_s1 (s1 (hq_slot n (th k))) (((Int32.toInt64 gr) * (Int32.toInt64 (tv k))) / 100))), hq_al ca (G 1) n (vp_updL c1 (hq_slot n (th k)) (hq_c1c (w1 (hq_slot n (th k))) (s1 (hq_slot n (th k))) (c1 (hq_slot n (th k))) (((Int32.toInt64 gr) * (Int32.toInt64 (tv k))) / 100))), hq_o6 z za zb (nI q), hq_ai za (G 0) 247 th, hq_ai zb (G 0) 247 tv] ++ Z) H := hP
          have hD : va_D A ([hq_o4 h wa sa ca ru, hq_ai wa (G 0) n (upd w1 (hq_slot n (th k)) (hq_c1w (w1 (hq_slot n (th k))) (s1 (hq_slot n (th k))) (c1 (hq_slot n (th k))) (((Int32.toInt64 gr) * (Int32.toInt64 (tv k))) / 100))), hq_al sa (G 1) n (vp_updL s1 (hq_slot n (th k)) (hq_s1 (s1 (hq_slot n (th k))) (((Int32.toInt64 gr) * (Int32.toInt64 (tv k))) / 100))), hq_al ca (G 1) n (vp_updL c1 (hq_slot n (th k)) (hq_c1c (w1 (hq_slot n (th k))) (s1 (hq_slot n (th k))) (c1 (hq_slot n (th k))) (((Int32.toInt64 gr) * (Int32.toInt64 (tv k))) / 100))), hq_o6 z za zb (nI q), hq_ai za (G 0) 247 th, hq_ai zb (G 0) 247 tv] ++ Z) := hD
          refine lv_goto (tgt := 75) hx hb d_Table_moveAll_54 rfl ?_
          refine lv_iinc (nL := 7) (k := 5) (v := nI (k + 1)) (lv' := [(3, .int (nI (k + 1))), (5, .long (((Int32.toInt64 gr) * (Int32.toInt64 (tv k))) / 100)), (4, .int (tv k)), (0, .ref h), (1, .ref z), (2, .int gr)]) hx hb d_Table_moveAll_75 hl rfl (nI_add k 1) (by decide) rfl (fun ls hl => ?_)
          refine lv_goto (tgt := 2) hx hb d_Table_moveAll_78 rfl ?_
          exact ih _ (by omega) (k + 1) (upd w1 (hq_slot n (th k)) (hq_c1w (w1 (hq_slot n (th k))) (s1 (hq_slot n (th k))) (c1 (hq_slot n (th k))) (((Int32.toInt64 gr) * (Int32.toInt64 (tv k))) / 100))) (vp_updL s1 (hq_slot n (th k)) (hq_s1 (s1 (hq_slot n (th k))) (((Int32.toInt64 gr) * (Int32.toInt64 (tv k))) / 100))) (vp_updL c1 (hq_slot n (th k)) (hq_c1c (w1 (hq_slot n (th k))) (s1 (hq_slot n (th k))) (c1 (hq_slot n (th k))) (((Int32.toInt64 gr) * (Int32.toInt64 (tv k))) / 100))) ls H locs rfl (by first | assumption | omega) (hF.trans ((hq_mv_go (by omega)).trans (by first | (rw [hq_mv1, if_pos c35]; done) | (rw [hq_mv1, if_neg c35]; done)))) (by first | exact hq_inv_r1 hJ hsl hd9.1 hd9.2 c35 | exact hq_inv_r0 hJ hsl hd9.1 hd9.2 c35 hx9.1 hx9.2) (lv_sub hl [3, 4, 5, 0] rfl) hP hD hS
  exact cut2 _ 0 wt su sc ls H locs rfl (by first | assumption | omega) (rfl) (hI) (lv_sub hl [1, 2, 3, 0] rfl) hP hD hS
