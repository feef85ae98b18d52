theorem d_H_clip_0 : decode b_H_clip 0 = .ok (.lload_n 0, 1) := by decide +kernel
theorem d_H_clip_1 : decode b_H_clip 1 = .ok (.lload_n 2, 1) := by decide +kernel
theorem d_H_clip_2 : decode b_H_clip 2 = .ok (.lneg, 1) := by decide +kernel
theorem d_H_clip_3 : decode b_H_clip 3 = .ok (.lcmp, 1) := by decide +kernel
theorem d_H_clip_4 : decode b_H_clip 4 = .ok (.ifCond .ge (8), 3) := by decide +kernel
theorem d_H_clip_7 : decode b_H_clip 7 = .ok (.lload_n 2, 1) := by decide +kernel
theorem d_H_clip_8 : decode b_H_clip 8 = .ok (.lneg, 1) := by decide +kernel
theorem d_H_clip_9 : decode b_H_clip 9 = .ok (.goto (8), 3) := by decide +kernel
theorem d_H_clip_12 : decode b_H_clip 12 = .ok (.lload_n 0, 1) := by decide +kernel
theorem d_H_clip_13 : decode b_H_clip 13 = .ok (.lload_n 2, 1) := by decide +kernel
theorem d_H_clip_14 : decode b_H_clip 14 = .ok (.invokestatic 204, 3) := by decide +kernel
theorem d_H_clip_17 : decode b_H_clip 17 = .ok (.lreturn, 1) := by decide +kernel
def f_H_clip (v : Int64) (m0 : Int64) : Int64 := if (-m0) ≤ v then if m0 < v then m0 else v else -m0
set_option maxHeartbeats 4000000 in
set_option maxRecDepth 100000 in
/-- clip(v, m) -/
theorem c_H_clip (l : Launch) (D : va_G) (G : Nat → ClassId) (A : Nat → Prop) (Z : va_W) (v : Int64) (m0 : Int64) : hq_FL l D G A y_H_clip b_H_clip 4 1 [.long v, .long m0] ([] ++ Z) (f_H_clip v m0) ([] ++ Z) := by
  refine hq_bL (by decide) (Nat.le_of_ble_eq_true rfl) ?_
  intro p e s m args below meth c Q hx hb hml hts hown hA hK hN hret ls H locs hl hP hD hS
  have hown : s.vm.findClass "HashedLearner" = some m.cls := hown
  have hl : lv_has ls 4 [(0, .long v), (2, .long m0)] := hl
  refine lv_lload_n hx hb d_H_clip_0 rfl (lv_at hl 0 rfl) ?_
  refine lv_lload_n hx hb d_H_clip_1 rfl (lv_at hl 1 rfl) ?_
  refine lv_lneg hx hb d_H_clip_2 ?_
  refine W.lcmp hx hb d_H_clip_3 ?_
  refine lv_if_ge (tgt := 12) hx hb d_H_clip_4 rfl (fun c4 => ?_) (fun c4 => ?_)
  · -- 4 taken
    have c4 : (-m0) ≤ v := (lg_cmp_ge v (-m0)).mp c4
    refine lv_lload_n hx hb d_H_clip_12 rfl (lv_at hl 0 rfl) ?_
    refine lv_lload_n hx hb d_H_clip_13 rfl (lv_at hl 1 rfl) ?_
    refine va_mmin_long hx hb (by rw [hml]; exact hl.1.symm) hown (hts _ ma_H_204) (hts _ ma_s_minL) (hts _ ma_i) (hts _ ma_c_minL) (by decide) (Nat.le_of_ble_eq_true rfl) (by decide) (by decide) d_H_clip_14 ?_
    exact hret (if m0 < v then m0 else v) () H locs 17 ls d_H_clip_17 (by rw [f_H_clip, if_pos c4] <;> rfl) hP hD hS
  · -- 4 not taken
    have c4 : ¬ (-m0) ≤ v := fun h => c4 ((lg_cmp_ge v (-m0)).mpr h)
    refine lv_lload_n hx hb d_H_clip_7 rfl (lv_at hl 1 rfl) ?_
    refine lv_lneg hx hb d_H_clip_8 ?_
    refine lv_goto (tgt := 17) hx hb d_H_clip_9 rfl ?_
    exact hret (-m0) () H locs 17 ls d_H_clip_17 (by rw [f_H_clip, if_neg c4] <;> rfl) hP hD hS
theorem d_H_isTypeable_0 : decode b_H_isTypeable 0 = .ok (.iload_n 0, 1) := by decide +kernel
theorem d_H_isTypeable_1 : decode b_H_isTypeable 1 = .ok (.bipush (32), 2) := by decide +kernel
theorem d_H_isTypeable_3 : decode b_H_isTypeable 3 = .ok (.if_icmp .lt (13), 3) := by decide +kernel
theorem d_H_isTypeable_6 : decode b_H_isTypeable 6 = .ok (.iload_n 0, 1) := by decide +kernel
theorem d_H_isTypeable_7 : decode b_H_isTypeable 7 = .ok (.bipush (126), 2) := by decide +kernel
theorem d_H_isTypeable_9 : decode b_H_isTypeable 9 = .ok (.if_icmp .gt (7), 3) := by decide +kernel
theorem d_H_isTypeable_12 : decode b_H_isTypeable 12 = .ok (.iconst 1, 1) := by decide +kernel
theorem d_H_isTypeable_13 : decode b_H_isTypeable 13 = .ok (.goto (4), 3) := by decide +kernel
theorem d_H_isTypeable_16 : decode b_H_isTypeable 16 = .ok (.iconst 0, 1) := by decide +kernel
theorem d_H_isTypeable_17 : decode b_H_isTypeable 17 = .ok (.ireturn, 1) := by decide +kernel
def f_H_isTypeable (x : Int32) : Bool := if x < 32 then false else if 126 < x then false else true
set_option maxHeartbeats 4000000 in
set_option maxRecDepth 100000 in
theorem c_H_isTypeable (l : Launch) (D : va_G) (G : Nat → ClassId) (A : Nat → Prop) (Z : va_W) (x : Int32) : hq_FI l D G A y_H_isTypeable b_H_isTypeable 1 .boolean 0 [.int x] ([] ++ Z) (hq_z (f_H_isTypeable x)) ([] ++ Z) := by
  refine hq_bI (by decide) (Nat.le_of_ble_eq_true rfl) (fun r u h => by rw [h]; exact hq_znar _) ?_
  intro p e s m args below meth c Q hx hb hml hts hown hA hK hN hret ls H locs hl hP hD hS
  have hown : s.vm.findClass "HashedLearner" = some m.cls := hown
  have hl : lv_has ls 1 [(0, .int x)] := hl
  refine lv_iload_n hx hb d_H_isTypeable_0 rfl (lv_at hl 0 rfl) ?_
  refine lv_bipush (v := 32) hx hb d_H_isTypeable_1 (by decide) ?_
  refine lv_icmp_lt (tgt := 16) hx hb d_H_isTypeable_3 rfl (fun c3 => ?_) (fun c3 => ?_)
  · -- 3 taken
    have c3 : x < 32 := c3
    refine lv_iconst (v := 0) hx hb d_H_isTypeable_16 (by decide) ?_
    exact hret 0 () H locs 17 ls d_H_isTypeable_17 (by rw [f_H_isTypeable, if_pos c3] <;> rfl) hP hD hS
  · -- 3 not taken
    have c3 : ¬ x < 32 := c3
    refine lv_iload_n hx hb d_H_isTypeable_6 rfl (lv_at hl 0 rfl) ?_
    refine lv_bipush (v := 126) hx hb d_H_isTypeable_7 (by decide) ?_
    refine lv_icmp_gt (tgt := 16) hx hb d_H_isTypeable_9 rfl (fun c9 => ?_) (fun c9 => ?_)
    · -- 9 taken
      have c9 : 126 < x := c9
      refine lv_iconst (v := 0) hx hb d_H_isTypeable_16 (by decide) ?_
      exact hret 0 () H locs 17 ls d_H_isTypeable_17 (by rw [f_H_isTypeable, if_neg c3, if_pos c9] <;> rfl) hP hD hS
    · -- 9 not taken
      have c9 : ¬ 126 < x := c9
      refine lv_iconst (v := 1) hx hb d_H_isTypeable_12 (by decide) ?_
      refine lv_goto (tgt := 17) hx hb d_H_isTypeable_13 rfl ?_
      exact hret 1 () H locs 17 ls d_H_isTypeable_17 (by rw [f_H_isTypeable, if_neg c3, if_neg c9] <;> rfl) hP hD hS
theorem hq_typ {x : Int32} (h : f_H_isTypeable x = true) : hq_ch x := by
  unfold f_H_isTypeable at h
  by_cases h1 : x < 32
  · rw [if_pos h1] at h; cases h
  · by_cases h2 : 126 < x
    · rw [if_neg h1, if_pos h2] at h; cases h
    · exact ⟨Int32.not_lt.mp h1, Int32.not_lt.mp h2⟩
theorem d_NameHash_roll_0 : decode b_NameHash_roll 0 = .ok (.iload_n 0, 1) := by decide +kernel
theorem d_NameHash_roll_1 : decode b_NameHash_roll 1 = .ok (.iload_n 1, 1) := by decide +kernel
theorem d_NameHash_roll_2 : decode b_NameHash_roll 2 = .ok (.ishl, 1) := by decide +kernel
theorem d_NameHash_roll_3 : decode b_NameHash_roll 3 = .ok (.iload_n 0, 1) := by decide +kernel
theorem d_NameHash_roll_4 : decode b_NameHash_roll 4 = .ok (.bipush (32), 2) := by decide +kernel
theorem d_NameHash_roll_6 : decode b_NameHash_roll 6 = .ok (.iload_n 1, 1) := by decide +kernel
theorem d_NameHash_roll_7 : decode b_NameHash_roll 7 = .ok (.isub, 1) := by decide +kernel
theorem d_NameHash_roll_8 : decode b_NameHash_roll 8 = .ok (.iushr, 1) := by decide +kernel
theorem d_NameHash_roll_9 : decode b_NameHash_roll 9 = .ok (.ior, 1) := by decide +kernel
theorem d_NameHash_roll_10 : decode b_NameHash_roll 10 = .ok (.ireturn, 1) := by decide +kernel
def f_NameHash_roll (v : Int32) (q : Int32) : Int32 := (v <<< (q &&& 31)) ||| (((Int32.toUInt32 v) >>> ((Int32.toUInt32 (32 - q)) &&& Int32.toUInt32 31)).toInt32)
set_option maxHeartbeats 4000000 in
set_option maxRecDepth 100000 in
theorem c_NameHash_roll (l : Launch) (D : va_G) (G : Nat → ClassId) (A : Nat → Prop) (Z : va_W) (v : Int32) (q : Int32) : hq_FI l D G A y_NameHash_roll b_NameHash_roll 2 .int 0 [.int v, .int q] ([] ++ Z) (f_NameHash_roll v q) ([] ++ Z) := by
  refine hq_bI (by decide) (Nat.le_of_ble_eq_true rfl) (fun _ _ _ => rfl) ?_
  intro p e s m args below meth c Q hx hb hml hts hown hA hK hN hret ls H locs hl hP hD hS
  have hown : s.vm.findClass "HashedLearner$NameHash" = some m.cls := hown
  have hl : lv_has ls 2 [(0, .int v), (1, .int q)] := hl
  refine lv_iload_n hx hb d_NameHash_roll_0 rfl (lv_at hl 0 rfl) ?_
  refine lv_iload_n hx hb d_NameHash_roll_1 rfl (lv_at hl 1 rfl) ?_
  refine lv_ishl hx hb d_NameHash_roll_2 ?_
  refine lv_iload_n hx hb d_NameHash_roll_3 rfl (lv_at hl 0 rfl) ?_
  refine lv_bipush (v := 32) hx hb d_NameHash_roll_4 (by decide) ?_
  refine lv_iload_n hx hb d_NameHash_roll_6 rfl (lv_at hl 1 rfl) ?_
  refine lv_isub hx hb d_NameHash_roll_7 ?_
  refine lv_iushr (v := ((Int32.toUInt32 v) >>> ((Int32.toUInt32 (32 - q)) &&& Int32.toUInt32 31)).toInt32) hx hb d_NameHash_roll_8 rfl ?_
  refine lv_ior hx hb d_NameHash_roll_9 ?_
  exact hret ((v <<< (q &&& 31)) ||| (((Int32.toUInt32 v) >>> ((Int32.toUInt32 (32 - q)) &&& Int32.toUInt32 31)).toInt32)) () H locs 10 ls d_NameHash_roll_10 (by rw [f_NameHash_roll] <;> rfl) hP hD hS
theorem d_NameHash_mixed_0 : decode b_NameHash_mixed 0 = .ok (.iload_n 0, 1) := by decide +kernel
theorem d_NameHash_mixed_1 : decode b_NameHash_mixed 1 = .ok (.ldc 34, 2) := by decide +kernel
theorem d_NameHash_mixed_3 : decode b_NameHash_mixed 3 = .ok (.imul, 1) := by decide +kernel
theorem d_NameHash_mixed_4 : decode b_NameHash_mixed 4 = .ok (.bipush (15), 2) := by decide +kernel
theorem d_NameHash_mixed_6 : decode b_NameHash_mixed 6 = .ok (.invokestatic 26, 3) := by decide +kernel
theorem d_NameHash_mixed_9 : decode b_NameHash_mixed 9 = .ok (.ldc 35, 2) := by decide +kernel
theorem d_NameHash_mixed_11 : decode b_NameHash_mixed 11 = .ok (.imul, 1) := by decide +kernel
theorem d_NameHash_mixed_12 : decode b_NameHash_mixed 12 = .ok (.ireturn, 1) := by decide +kernel
def f_NameHash_mixed (v : Int32) : Int32 := (f_NameHash_roll (v * (-862048943)) 15) * 461845907
set_option maxHeartbeats 4000000 in
set_option maxRecDepth 100000 in
theorem c_NameHash_mixed (l : Launch) (D : va_G) (G : Nat → ClassId) (A : Nat → Prop) (Z : va_W) (v : Int32) : hq_FI l D G A y_NameHash_mixed b_NameHash_mixed 1 .int 1 [.int v] ([] ++ Z) (f_NameHash_mixed v) ([] ++ Z) := by
  refine hq_bI (by decide) (Nat.le_of_ble_eq_true rfl) (fun _ _ _ => rfl) ?_
  intro p e s m args below meth c Q hx hb hml hts hown hA hK hN hret ls H locs hl hP hD hS
  have hown : s.vm.findClass "HashedLearner$NameHash" = some m.cls := hown
  have hl : lv_has ls 1 [(0, .int v)] := hl
  refine lv_iload_n hx hb d_NameHash_mixed_0 rfl (lv_at hl 0 rfl) ?_
  refine lv_ldc (v := (-862048943)) hx hb hown (hts _ ki_NameHash_34) d_NameHash_mixed_1 ?_
  refine lv_imul hx hb d_NameHash_mixed_3 ?_
  refine lv_bipush (v := 15) hx hb d_NameHash_mixed_4 (by decide) ?_
  have hPc : va_P D hq_cl ([] ++ Z) H := hP
  have hDc : va_D A ([] ++ Z) := hD
  refine hq_iF (hq_rS (As := [.int (v * (-862048943)), .int 15]) (rest := []) hx hb hml hown hts (c_NameHash_roll l D G A Z (v * (-862048943)) 15) yy_NameHash_roll lk_NameHash_26 hA hK hN hS hPc hDc rfl hl.1 rfl (Nat.le_of_ble_eq_true rfl) d_NameHash_mixed_6 ⟨by decide, by decide⟩ ⟨by decide, by decide⟩) hS (fun H locs hP hD hS => ?_)
  have hP : va_P D hq_cl ([] ++ Z) H := hP
  have hD : va_D A ([] ++ Z) := hD
  refine lv_ldc (v := 461845907) hx hb hown (hts _ ki_NameHash_35) d_NameHash_mixed_9 ?_
  refine lv_imul hx hb d_NameHash_mixed_11 ?_
  exact hret ((f_NameHash_roll (v * (-862048943)) 15) * 461845907) () H locs 12 ls d_NameHash_mixed_12 (by rw [f_NameHash_mixed] <;> rfl) hP hD hS
theorem d_NameHash_finished_0 : decode b_NameHash_finished 0 = .ok (.iload_n 0, 1) := by decide +kernel
theorem d_NameHash_finished_1 : decode b_NameHash_finished 1 = .ok (.istore_n 1, 1) := by decide +kernel
theorem d_NameHash_finished_2 : decode b_NameHash_finished 2 = .ok (.iload_n 1, 1) := by decide +kernel
theorem d_NameHash_finished_3 : decode b_NameHash_finished 3 = .ok (.iload_n 1, 1) := by decide +kernel
theorem d_NameHash_finished_4 : decode b_NameHash_finished 4 = .ok (.bipush (16), 2) := by decide +kernel
theorem d_NameHash_finished_6 : decode b_NameHash_finished 6 = .ok (.iushr, 1) := by decide +kernel
theorem d_NameHash_finished_7 : decode b_NameHash_finished 7 = .ok (.ixor, 1) := by decide +kernel
theorem d_NameHash_finished_8 : decode b_NameHash_finished 8 = .ok (.istore_n 1, 1) := by decide +kernel
theorem d_NameHash_finished_9 : decode b_NameHash_finished 9 = .ok (.iload_n 1, 1) := by decide +kernel
theorem d_NameHash_finished_10 : decode b_NameHash_finished 10 = .ok (.ldc 36, 2) := by decide +kernel
theorem d_NameHash_finished_12 : decode b_NameHash_finished 12 = .ok (.imul, 1) := by decide +kernel
theorem d_NameHash_finished_13 : decode b_NameHash_finished 13 = .ok (.istore_n 1, 1) := by decide +kernel
theorem d_NameHash_finished_14 : decode b_NameHash_finished 14 = .ok (.iload_n 1, 1) := by decide +kernel
theorem d_NameHash_finished_15 : decode b_NameHash_finished 15 = .ok (.iload_n 1, 1) := by decide +kernel
theorem d_NameHash_finished_16 : decode b_NameHash_finished 16 = .ok (.bipush (13), 2) := by decide +kernel
theorem d_NameHash_finished_18 : decode b_NameHash_finished 18 = .ok (.iushr, 1) := by decide +kernel
theorem d_NameHash_finished_19 : decode b_NameHash_finished 19 = .ok (.ixor, 1) := by decide +kernel
theorem d_NameHash_finished_20 : decode b_NameHash_finished 20 = .ok (.istore_n 1, 1) := by decide +kernel
theorem d_NameHash_finished_21 : decode b_NameHash_finished 21 = .ok (.iload_n 1, 1) := by decide +kernel
theorem d_NameHash_finished_22 : decode b_NameHash_finished 22 = .ok (.ldc 37, 2) := by decide +kernel
theorem d_NameHash_finished_24 : decode b_NameHash_finished 24 = .ok (.imul, 1) := by decide +kernel
theorem d_NameHash_finished_25 : decode b_NameHash_finished 25 = .ok (.istore_n 1, 1) := by decide +kernel
theorem d_NameHash_finished_26 : decode b_NameHash_finished 26 = .ok (.iload_n 1, 1) := by decide +kernel
theorem d_NameHash_finished_27 : decode b_NameHash_finished 27 = .ok (.iload_n 1, 1) := by decide +kernel
theorem d_NameHash_finished_28 : decode b_NameHash_finished 28 = .ok (.bipush (16), 2) := by decide +kernel
theorem d_NameHash_finished_30 : decode b_NameHash_finished 30 = .ok (.iushr, 1) := by decide +kernel
theorem d_NameHash_finished_31 : decode b_NameHash_finished 31 = .ok (.ixor, 1) := by decide +kernel
theorem d_NameHash_finished_32 : decode b_NameHash_finished 32 = .ok (.ireturn, 1) := by decide +kernel
def f_NameHash_finished (v : Int32) : Int32 := ((((v ^^^ (((Int32.toUInt32 v) >>> ((Int32.toUInt32 16) &&& Int32.toUInt32 31)).toInt32)) * (-2048144789)) ^^^ (((Int32.toUInt32 ((v ^^^ (((Int32.toUInt32 v) >>> ((Int32.toUInt32 16) &&& Int32.toUInt32 31)).toInt32)) * (-2048144789))) >>> ((Int32.toUInt32 13) &&& Int32.toUInt32 31)).toInt32)) * (-1028477387)) ^^^ (((Int32.toUInt32 ((((v ^^^ (((Int32.toUInt32 v) >>> ((Int32.toUInt32 16) &&& Int32.toUInt32 31)).toInt32)) * (-2048144789)) ^^^ (((Int32.toUInt32 ((v ^^^ (((Int32.toUInt32 v) >>> ((Int32.toUInt32 16) &&& Int32.toUInt32 31)).toInt32)) * (-2048144789))) >>> ((Int32.toUInt32 13) &&& Int32.toUInt32 31)).toInt32)) * (-1028477387))) >>> ((Int32.toUInt32 16) &&& Int32.toUInt32 31)).toInt32)
set_option maxHeartbeats 4000000 in
set_option maxRecDepth 100000 in
theorem c_NameHash_finished (l : Launch) (D : va_G) (G : Nat → ClassId) (A : Nat → Prop) (Z : va_W) (v : Int32) : hq_FI l D G A y_NameHash_finished b_NameHash_finished 2 .int 0 [.int v] ([] ++ Z) (f_NameHash_finished v) ([] ++ Z) := by
  refine hq_bI (by decide) (Nat.le_of_ble_eq_true rfl) (fun _ _ _ => rfl) ?_
  intro p e s m args below meth c Q hx hb hml hts hown hA hK hN hret ls H locs hl hP hD hS
  have hown : s.vm.findClass "HashedLearner$NameHash" = some m.cls := hown
  have hl : lv_has ls 2 [(0, .int v)] := hl
  refine lv_iload_n hx hb d_NameHash_finished_0 rfl (lv_at hl 0 rfl) ?_
  refine lv_istore_n (nL := 2) (lv' := [(1, .int v), (0, .int v)]) hx hb d_NameHash_finished_1 rfl hl (by decide) rfl (fun ls hl => ?_)
  refine lv_iload_n hx hb d_NameHash_finished_2 rfl (lv_at hl 0 rfl) ?_
  refine lv_iload_n hx hb d_NameHash_finished_3 rfl (lv_at hl 0 rfl) ?_
  refine lv_bipush (v := 16) hx hb d_NameHash_finished_4 (by decide) ?_
  refine lv_iushr (v := ((Int32.toUInt32 v) >>> ((Int32.toUInt32 16) &&& Int32.toUInt32 31)).toInt32) hx hb d_NameHash_finished_6 rfl ?_
  refine lv_ixor hx hb d_NameHash_finished_7 ?_
  refine lv_istore_n (nL := 2) (lv' := [(1, .int (v ^^^ (((Int32.toUInt32 v) >>> ((Int32.toUInt32 16) &&& Int32.toUInt32 31)).toInt32))), (0, .int v)]) hx hb d_NameHash_finished_8 rfl hl (by decide) rfl (fun ls hl => ?_)
  refine lv_iload_n hx hb d_NameHash_finished_9 rfl (lv_at hl 0 rfl) ?_
  refine lv_ldc (v := (-2048144789)) hx hb hown (hts _ ki_NameHash_36) d_NameHash_finished_10 ?_
  refine lv_imul hx hb d_NameHash_finished_12 ?_
  refine lv_istore_n (nL := 2) (lv' := [(1, .int ((v ^^^ (((Int32.toUInt32 v) >>> ((Int32.toUInt32 16) &&& Int32.toUInt32 31)).toInt32)) * (-2048144789))), (0, .int v)]) hx hb d_NameHash_finished_13 rfl hl (by decide) rfl (fun ls hl => ?_)
  refine lv_iload_n hx hb d_NameHash_finished_14 rfl (lv_at hl 0 rfl) ?_
  refine lv_iload_n hx hb d_NameHash_finished_15 rfl (lv_at hl 0 rfl) ?_
  refine lv_bipush (v := 13) hx hb d_NameHash_finished_16 (by decide) ?_
  refine lv_iushr (v := ((Int32.toUInt32 ((v ^^^ (((Int32.toUInt32 v) >>> ((Int32.toUInt32 16) &&& Int32.toUInt32 31)).toInt32)) * (-2048144789))) >>> ((Int32.toUInt32 13) &&& Int32.toUInt32 31)).toInt32) hx hb d_NameHash_finished_18 rfl ?_
  refine lv_ixor hx hb d_NameHash_finished_19 ?_
  refine lv_istore_n (nL := 2) (lv' := [(1, .int (((v ^^^ (((Int32.toUInt32 v) >>> ((Int32.toUInt32 16) &&& Int32.toUInt32 31)).toInt32)) * (-2048144789)) ^^^ (((Int32.toUInt32 ((v ^^^ (((Int32.toUInt32 v) >>> ((Int32.toUInt32 16) &&& Int32.toUInt32 31)).toInt32)) * (-2048144789))) >>> ((Int32.toUInt32 13) &&& Int32.toUInt32 31)).toInt32))), (0, .int v)]) hx hb d_NameHash_finished_20 rfl hl (by decide) rfl (fun ls hl => ?_)
  refine lv_iload_n hx hb d_NameHash_finished_21 rfl (lv_at hl 0 rfl) ?_
  refine lv_ldc (v := (-1028477387)) hx hb hown (hts _ ki_NameHash_37) d_NameHash_finished_22 ?_
  refine lv_imul hx hb d_NameHash_finished_24 ?_
  refine lv_istore_n (nL := 2) (lv' := [(1, .int ((((v ^^^ (((Int32.toUInt32 v) >>> ((Int32.toUInt32 16) &&& Int32.toUInt32 31)).toInt32)) * (-2048144789)) ^^^ (((Int32.toUInt32 ((v ^^^ (((Int32.toUInt32 v) >>> ((Int32.toUInt32 16) &&& Int32.toUInt32 31)).toInt32)) * (-2048144789))) >>> ((Int32.toUInt32 13) &&& Int32.toUInt32 31)).toInt32)) * (-1028477387))), (0, .int v)]) hx hb d_NameHash_finished_25 rfl hl (by decide) rfl (fun ls hl => ?_)
  refine lv_iload_n hx hb d_NameHash_finished_26 rfl (lv_at hl 0 rfl) ?_
  refine lv_iload_n hx hb d_NameHash_finished_27 rfl (lv_at hl 0 rfl) ?_
  refine lv_bipush (v := 16) hx hb d_NameHash_finished_28 (by decide) ?_
  refine lv_iushr (v := ((Int32.toUInt32 ((((v ^^^ (((Int32.toUInt32 v) >>> ((Int32.toUInt32 16) &&& Int32.toUInt32 31)).toInt32)) * (-2048144789)) ^^^ (((Int32.toUInt32 ((v ^^^ (((Int32.toUInt32 v) >>> ((Int32.toUInt32 16) &&& Int32.toUInt32 31)).toInt32)) * (-2048144789))) >>> ((Int32.toUInt32 13) &&& Int32.toUInt32 31)).toInt32)) * (-1028477387))) >>> ((Int32.toUInt32 16) &&& Int32.toUInt32 31)).toInt32) hx hb d_NameHash_finished_30 rfl ?_
  refine lv_ixor hx hb d_NameHash_finished_31 ?_
  exact hret (((((v ^^^ (((Int32.toUInt32 v) >>> ((Int32.toUInt32 16) &&& Int32.toUInt32 31)).toInt32)) * (-2048144789)) ^^^ (((Int32.toUInt32 ((v ^^^ (((Int32.toUInt32 v) >>> ((Int32.toUInt32 16) &&& Int32.toUInt32 31)).toInt32)) * (-2048144789))) >>> ((Int32.toUInt32 13) &&& Int32.toUInt32 31)).toInt32)) * (-1028477387)) ^^^ (((Int32.toUInt32 ((((v ^^^ (((Int32.toUInt32 v) >>> ((Int32.toUInt32 16) &&& Int32.toUInt32 31)).toInt32)) * (-2048144789)) ^^^ (((Int32.toUInt32 ((v ^^^ (((Int32.toUInt32 v) >>> ((Int32.toUInt32 16) &&& Int32.toUInt32 31)).toInt32)) * (-2048144789))) >>> ((Int32.toUInt32 13) &&& Int32.toUInt32 31)).toInt32)) * (-1028477387))) >>> ((Int32.toUInt32 16) &&& Int32.toUInt32 31)).toInt32)) () H locs 32 ls d_NameHash_finished_32 (by rw [f_NameHash_finished] <;> rfl) hP hD hS
theorem d_Loss_sideOf_0 : decode b_Loss_sideOf 0 = .ok (.iload_n 0, 1) := by decide +kernel
theorem d_Loss_sideOf_1 : decode b_Loss_sideOf 1 = .ok (.ifCond .lt (7), 3) := by decide +kernel
theorem d_Loss_sideOf_4 : decode b_Loss_sideOf 4 = .ok (.iconst 1, 1) := by decide +kernel
theorem d_Loss_sideOf_5 : decode b_Loss_sideOf 5 = .ok (.goto (4), 3) := by decide +kernel
theorem d_Loss_sideOf_8 : decode b_Loss_sideOf 8 = .ok (.iconst (-1), 1) := by decide +kernel
theorem d_Loss_sideOf_9 : decode b_Loss_sideOf 9 = .ok (.ireturn, 1) := by decide +kernel
def f_Loss_sideOf (x : Int32) : Int32 := if x < 0 then (-1) else 1
set_option maxHeartbeats 4000000 in
set_option maxRecDepth 100000 in
theorem c_Loss_sideOf (l : Launch) (D : va_G) (G : Nat → ClassId) (A : Nat → Prop) (Z : va_W) (x : Int32) : hq_FI l D G A y_Loss_sideOf b_Loss_sideOf 1 .int 0 [.int x] ([] ++ Z) (f_Loss_sideOf x) ([] ++ Z) := by
  refine hq_bI (by decide) (Nat.le_of_ble_eq_true rfl) (fun _ _ _ => rfl) ?_
  intro p e s m args below meth c Q hx hb hml hts hown hA hK hN hret ls H locs hl hP hD hS
  have hown : s.vm.findClass "HashedLearner$Loss" = some m.cls := hown
  have hl : lv_has ls 1 [(0, .int x)] := hl
  refine lv_iload_n hx hb d_Loss_sideOf_0 rfl (lv_at hl 0 rfl) ?_
  refine lv_if_lt (tgt := 8) hx hb d_Loss_sideOf_1 rfl (fun c1 => ?_) (fun c1 => ?_)
  · -- 1 taken
    have c1 : x < 0 := c1
    refine lv_iconst (v := (-1)) hx hb d_Loss_sideOf_8 (by decide) ?_
    exact hret (-1) () H locs 9 ls d_Loss_sideOf_9 (by rw [f_Loss_sideOf, if_pos c1] <;> rfl) hP hD hS
  · -- 1 not taken
    have c1 : ¬ x < 0 := c1
    refine lv_iconst (v := 1) hx hb d_Loss_sideOf_4 (by decide) ?_
    refine lv_goto (tgt := 9) hx hb d_Loss_sideOf_5 rfl ?_
    exact hret 1 () H locs 9 ls d_Loss_sideOf_9 (by rw [f_Loss_sideOf, if_neg c1] <;> rfl) hP hD hS
theorem d_Tally_isPowerOfTwo_0 : decode b_Tally_isPowerOfTwo 0 = .ok (.iload_n 0, 1) := by decide +kernel
theorem d_Tally_isPowerOfTwo_1 : decode b_Tally_isPowerOfTwo 1 = .ok (.ifCond .le (15), 3) := by decide +kernel
theorem d_Tally_isPowerOfTwo_4 : decode b_Tally_isPowerOfTwo 4 = .ok (.iload_n 0, 1) := by decide +kernel
theorem d_Tally_isPowerOfTwo_5 : decode b_Tally_isPowerOfTwo 5 = .ok (.iload_n 0, 1) := by decide +kernel
theorem d_Tally_isPowerOfTwo_6 : decode b_Tally_isPowerOfTwo 6 = .ok (.iconst 1, 1) := by decide +kernel
theorem d_Tally_isPowerOfTwo_7 : decode b_Tally_isPowerOfTwo 7 = .ok (.isub, 1) := by decide +kernel
theorem d_Tally_isPowerOfTwo_8 : decode b_Tally_isPowerOfTwo 8 = .ok (.iand, 1) := by decide +kernel
theorem d_Tally_isPowerOfTwo_9 : decode b_Tally_isPowerOfTwo 9 = .ok (.ifCond .ne (7), 3) := by decide +kernel
theorem d_Tally_isPowerOfTwo_12 : decode b_Tally_isPowerOfTwo 12 = .ok (.iconst 1, 1) := by decide +kernel
theorem d_Tally_isPowerOfTwo_13 : decode b_Tally_isPowerOfTwo 13 = .ok (.goto (4), 3) := by decide +kernel
theorem d_Tally_isPowerOfTwo_16 : decode b_Tally_isPowerOfTwo 16 = .ok (.iconst 0, 1) := by decide +kernel
theorem d_Tally_isPowerOfTwo_17 : decode b_Tally_isPowerOfTwo 17 = .ok (.ireturn, 1) := by decide +kernel
def f_Tally_isPowerOfTwo (x : Int32) : Bool := if x ≤ 0 then false else if (x &&& (x - 1)) = 0 then true else false
set_option maxHeartbeats 4000000 in
set_option maxRecDepth 100000 in
theorem c_Tally_isPowerOfTwo (l : Launch) (D : va_G) (G : Nat → ClassId) (A : Nat → Prop) (Z : va_W) (x : Int32) : hq_FI l D G A y_Tally_isPowerOfTwo b_Tally_isPowerOfTwo 1 .boolean 0 [.int x] ([] ++ Z) (hq_z (f_Tally_isPowerOfTwo x)) ([] ++ Z) := by
  refine hq_bI (by decide) (Nat.le_of_ble_eq_true rfl) (fun r u h => by rw [h]; exact hq_znar _) ?_
  intro p e s m args below meth c Q hx hb hml hts hown hA hK hN hret ls H locs hl hP hD hS
  have hown : s.vm.findClass "HashedLearner$Tally" = some m.cls := hown
  have hl : lv_has ls 1 [(0, .int x)] := hl
  refine lv_iload_n hx hb d_Tally_isPowerOfTwo_0 rfl (lv_at hl 0 rfl) ?_
  refine lv_if_le (tgt := 16) hx hb d_Tally_isPowerOfTwo_1 rfl (fun c1 => ?_) (fun c1 => ?_)
  · -- 1 taken
    have c1 : x ≤ 0 := c1
    refine lv_iconst (v := 0) hx hb d_Tally_isPowerOfTwo_16 (by decide) ?_
    exact hret 0 () H locs 17 ls d_Tally_isPowerOfTwo_17 (by rw [f_Tally_isPowerOfTwo, if_pos c1] <;> rfl) hP hD hS
  · -- 1 not taken
    have c1 : ¬ x ≤ 0 := c1
    refine lv_iload_n hx hb d_Tally_isPowerOfTwo_4 rfl (lv_at hl 0 rfl) ?_
    refine lv_iload_n hx hb d_Tally_isPowerOfTwo_5 rfl (lv_at hl 0 rfl) ?_
    refine lv_iconst (v := 1) hx hb d_Tally_isPowerOfTwo_6 (by decide) ?_
    refine lv_isub hx hb d_Tally_isPowerOfTwo_7 ?_
    refine lv_iand hx hb d_Tally_isPowerOfTwo_8 ?_
    refine lv_if_ne (tgt := 16) hx hb d_Tally_isPowerOfTwo_9 rfl (fun c9 => ?_) (fun c9 => ?_)
    · -- 9 taken
      have c9 : ¬ (x &&& (x - 1)) = 0 := c9
      refine lv_iconst (v := 0) hx hb d_Tally_isPowerOfTwo_16 (by decide) ?_
      exact hret 0 () H locs 17 ls d_Tally_isPowerOfTwo_17 (by rw [f_Tally_isPowerOfTwo, if_neg c1, if_neg c9] <;> rfl) hP hD hS
    · -- 9 not taken
      have c9 : (x &&& (x - 1)) = 0 := c9
      refine lv_iconst (v := 1) hx hb d_Tally_isPowerOfTwo_12 (by decide) ?_
      refine lv_goto (tgt := 17) hx hb d_Tally_isPowerOfTwo_13 rfl ?_
      exact hret 1 () H locs 17 ls d_Tally_isPowerOfTwo_17 (by rw [f_Tally_isPowerOfTwo, if_neg c1, if_pos c9] <;> rfl) hP hD hS
theorem d_Crossings_isLetter_0 : decode b_Crossings_isLetter 0 = .ok (.iload_n 0, 1) := by decide +kernel
theorem d_Crossings_isLetter_1 : decode b_Crossings_isLetter 1 = .ok (.invokestatic 34, 3) := by decide +kernel
theorem d_Crossings_isLetter_4 : decode b_Crossings_isLetter 4 = .ok (.ifCond .eq (19), 3) := by decide +kernel
theorem d_Crossings_isLetter_7 : decode b_Crossings_isLetter 7 = .ok (.iload_n 0, 1) := by decide +kernel
theorem d_Crossings_isLetter_8 : decode b_Crossings_isLetter 8 = .ok (.bipush (58), 2) := by decide +kernel
theorem d_Crossings_isLetter_10 : decode b_Crossings_isLetter 10 = .ok (.if_icmp .eq (13), 3) := by decide +kernel
theorem d_Crossings_isLetter_13 : decode b_Crossings_isLetter 13 = .ok (.iload_n 0, 1) := by decide +kernel
theorem d_Crossings_isLetter_14 : decode b_Crossings_isLetter 14 = .ok (.bipush (124), 2) := by decide +kernel
theorem d_Crossings_isLetter_16 : decode b_Crossings_isLetter 16 = .ok (.if_icmp .eq (7), 3) := by decide +kernel
theorem d_Crossings_isLetter_19 : decode b_Crossings_isLetter 19 = .ok (.iconst 1, 1) := by decide +kernel
theorem d_Crossings_isLetter_20 : decode b_Crossings_isLetter 20 = .ok (.goto (4), 3) := by decide +kernel
theorem d_Crossings_isLetter_23 : decode b_Crossings_isLetter 23 = .ok (.iconst 0, 1) := by decide +kernel
theorem d_Crossings_isLetter_24 : decode b_Crossings_isLetter 24 = .ok (.ireturn, 1) := by decide +kernel
def f_Crossings_isLetter (x : Int32) : Bool := if (f_H_isTypeable x) = true then if x = 58 then false else if x = 124 then false else true else false
set_option maxHeartbeats 4000000 in
set_option maxRecDepth 100000 in
theorem c_Crossings_isLetter (l : Launch) (D : va_G) (G : Nat → ClassId) (A : Nat → Prop) (Z : va_W) (x : Int32) : hq_FI l D G A y_Crossings_isLetter b_Crossings_isLetter 1 .boolean 1 [.int x] ([] ++ Z) (hq_z (f_Crossings_isLetter x)) ([] ++ Z) := by
  refine hq_bI (by decide) (Nat.le_of_ble_eq_true rfl) (fun r u h => by rw [h]; exact hq_znar _) ?_
  intro p e s m args below meth c Q hx hb hml hts hown hA hK hN hret ls H locs hl hP hD hS
  have hown : s.vm.findClass "HashedLearner$Crossings" = some m.cls := hown
  have hl : lv_has ls 1 [(0, .int x)] := hl
  refine lv_iload_n hx hb d_Crossings_isLetter_0 rfl (lv_at hl 0 rfl) ?_
  have hPc : va_P D hq_cl ([] ++ Z) H := hP
  have hDc : va_D A ([] ++ Z) := hD
  refine hq_iF (hq_rSN (As := [.int x]) (rest := []) hx hb hml hown hts (c_H_isTypeable l D G A Z x) yy_H_isTypeable lk_Crossings_34 hA hK hN hS hPc hDc rfl hl.1 rfl (Nat.le_of_ble_eq_true rfl) d_Crossings_isLetter_1 ⟨by decide, by decide⟩ ⟨by decide, by decide⟩) hS (fun H locs hP hD hS => ?_)
  have hP : va_P D hq_cl ([] ++ Z) H := hP
  have hD : va_D A ([] ++ Z) := hD
  refine lv_if_eq (tgt := 23) hx hb d_Crossings_isLetter_4 rfl (fun c4 => ?_) (fun c4 => ?_)
  · -- 4 taken
    have c4 : ¬ (f_H_isTypeable x) = true := by rw [hq_z0.mp c4]; decide
    refine lv_iconst (v := 0) hx hb d_Crossings_isLetter_23 (by decide) ?_
    exact hret 0 () H locs 24 ls d_Crossings_isLetter_24 (by rw [f_Crossings_isLetter, if_neg c4] <;> rfl) hP hD hS
  · -- 4 not taken
    have c4 : (f_H_isTypeable x) = true := hq_zn.mp c4
    refine lv_iload_n hx hb d_Crossings_isLetter_7 rfl (lv_at hl 0 rfl) ?_
    refine lv_bipush (v := 58) hx hb d_Crossings_isLetter_8 (by decide) ?_
    refine lv_icmp_eq (tgt := 23) hx hb d_Crossings_isLetter_10 rfl (fun c10 => ?_) (fun c10 => ?_)
    · -- 10 taken
      have c10 : x = 58 := c10
      refine lv_iconst (v := 0) hx hb d_Crossings_isLetter_23 (by decide) ?_
      exact hret 0 () H locs 24 ls d_Crossings_isLetter_24 (by rw [f_Crossings_isLetter, if_pos c4, if_pos c10] <;> rfl) hP hD hS
    · -- 10 not taken
      have c10 : ¬ x = 58 := c10
      refine lv_iload_n hx hb d_Crossings_isLetter_13 rfl (lv_at hl 0 rfl) ?_
      refine lv_bipush (v := 124) hx hb d_Crossings_isLetter_14 (by decide) ?_
      refine lv_icmp_eq (tgt := 23) hx hb d_Crossings_isLetter_16 rfl (fun c16 => ?_) (fun c16 => ?_)
      · -- 16 taken
        have c16 : x = 124 := c16
        refine lv_iconst (v := 0) hx hb d_Crossings_isLetter_23 (by decide) ?_
        exact hret 0 () H locs 24 ls d_Crossings_isLetter_24 (by rw [f_Crossings_isLetter, if_pos c4, if_neg c10, if_pos c16] <;> rfl) hP hD hS
      · -- 16 not taken
        have c16 : ¬ x = 124 := c16
        refine lv_iconst (v := 1) hx hb d_Crossings_isLetter_19 (by decide) ?_
        refine lv_goto (tgt := 24) hx hb d_Crossings_isLetter_20 rfl ?_
        exact hret 1 () H locs 24 ls d_Crossings_isLetter_24 (by rw [f_Crossings_isLetter, if_pos c4, if_neg c10, if_neg c16] <;> rfl) hP hD hS
theorem hq_let {x : Int32} (h : f_Crossings_isLetter x = true) : hq_ch x := by
  unfold f_Crossings_isLetter at h
  by_cases h1 : f_H_isTypeable x = true
  · exact hq_typ h1
  · rw [if_neg h1] at h; cases h
