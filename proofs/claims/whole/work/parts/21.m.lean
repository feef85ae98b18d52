theorem d_M_clip_0 : decode b_M_clip 0 = .ok (.lload_n 0, 1) := by decide +kernel
theorem d_M_clip_1 : decode b_M_clip 1 = .ok (.lload_n 2, 1) := by decide +kernel
theorem d_M_clip_2 : decode b_M_clip 2 = .ok (.lneg, 1) := by decide +kernel
theorem d_M_clip_3 : decode b_M_clip 3 = .ok (.lcmp, 1) := by decide +kernel
theorem d_M_clip_4 : decode b_M_clip 4 = .ok (.ifCond .ge (8), 3) := by decide +kernel
theorem d_M_clip_7 : decode b_M_clip 7 = .ok (.lload_n 2, 1) := by decide +kernel
theorem d_M_clip_8 : decode b_M_clip 8 = .ok (.lneg, 1) := by decide +kernel
theorem d_M_clip_9 : decode b_M_clip 9 = .ok (.goto (14), 3) := by decide +kernel
theorem d_M_clip_12 : decode b_M_clip 12 = .ok (.lload_n 0, 1) := by decide +kernel
theorem d_M_clip_13 : decode b_M_clip 13 = .ok (.lload_n 2, 1) := by decide +kernel
theorem d_M_clip_14 : decode b_M_clip 14 = .ok (.lcmp, 1) := by decide +kernel
theorem d_M_clip_15 : decode b_M_clip 15 = .ok (.ifCond .le (7), 3) := by decide +kernel
theorem d_M_clip_18 : decode b_M_clip 18 = .ok (.lload_n 2, 1) := by decide +kernel
theorem d_M_clip_19 : decode b_M_clip 19 = .ok (.goto (4), 3) := by decide +kernel
theorem d_M_clip_22 : decode b_M_clip 22 = .ok (.lload_n 0, 1) := by decide +kernel
theorem d_M_clip_23 : decode b_M_clip 23 = .ok (.lreturn, 1) := by decide +kernel
def f_M_clip (v : Int64) (m0 : Int64) : Int64 := if (-m0) ≤ v then if v ≤ m0 then v else m0 else -m0
set_option maxHeartbeats 4000000 in
set_option maxRecDepth 100000 in
theorem c_M_clip (l : Launch) (D : va_G) (G : Nat → ClassId) (A : Nat → Prop) (Z : va_W) (v : Int64) (m0 : Int64) : hq_FL l D G A y_M_clip b_M_clip 4 0 [.long v, .long m0] ([] ++ Z) (f_M_clip v m0) ([] ++ Z) := by
  refine hq_bL (by decide) (Nat.le_of_ble_eq_true rfl) ?_
  intro p e s m args below meth c Q hx hb hml hts hown hA hK hN hret ls H locs hl hP hD hS
  have hown : s.vm.findClass "HashedLearnerModel" = some m.cls := hown
  have hl : lv_has ls 4 [(0, .long v), (2, .long m0)] := hl
  refine lv_lload_n hx hb d_M_clip_0 rfl (lv_at hl 0 rfl) ?_
  refine lv_lload_n hx hb d_M_clip_1 rfl (lv_at hl 1 rfl) ?_
  refine lv_lneg hx hb d_M_clip_2 ?_
  refine W.lcmp hx hb d_M_clip_3 ?_
  refine lv_if_ge (tgt := 12) hx hb d_M_clip_4 rfl (fun c4 => ?_) (fun c4 => ?_)
  · -- 4 taken
    have c4 : (-m0) ≤ v := (lg_cmp_ge v (-m0)).mp c4
    refine lv_lload_n hx hb d_M_clip_12 rfl (lv_at hl 0 rfl) ?_
    refine lv_lload_n hx hb d_M_clip_13 rfl (lv_at hl 1 rfl) ?_
    refine W.lcmp hx hb d_M_clip_14 ?_
    refine lv_if_le (tgt := 22) hx hb d_M_clip_15 rfl (fun c15 => ?_) (fun c15 => ?_)
    · -- 15 taken
      have c15 : v ≤ m0 := (lg_cmp_le v m0).mp c15
      refine lv_lload_n hx hb d_M_clip_22 rfl (lv_at hl 0 rfl) ?_
      exact hret v () H locs 23 ls d_M_clip_23 (by rw [f_M_clip, if_pos c4, if_pos c15] <;> rfl) hP hD hS
    · -- 15 not taken
      have c15 : ¬ v ≤ m0 := fun h => c15 ((lg_cmp_le v m0).mpr h)
      refine lv_lload_n hx hb d_M_clip_18 rfl (lv_at hl 1 rfl) ?_
      refine lv_goto (tgt := 23) hx hb d_M_clip_19 rfl ?_
      exact hret m0 () H locs 23 ls d_M_clip_23 (by rw [f_M_clip, if_pos c4, if_neg c15] <;> rfl) hP hD hS
  · -- 4 not taken
    have c4 : ¬ (-m0) ≤ v := fun h => c4 ((lg_cmp_ge v (-m0)).mpr h)
    refine lv_lload_n hx hb d_M_clip_7 rfl (lv_at hl 1 rfl) ?_
    refine lv_lneg hx hb d_M_clip_8 ?_
    refine lv_goto (tgt := 23) hx hb d_M_clip_9 rfl ?_
    exact hret (-m0) () H locs 23 ls d_M_clip_23 (by rw [f_M_clip, if_neg c4] <;> rfl) hP hD hS
theorem d_M_letter_0 : decode b_M_letter 0 = .ok (.iload_n 0, 1) := by decide +kernel
theorem d_M_letter_1 : decode b_M_letter 1 = .ok (.bipush (32), 2) := by decide +kernel
theorem d_M_letter_3 : decode b_M_letter 3 = .ok (.if_icmp .lt (25), 3) := by decide +kernel
theorem d_M_letter_6 : decode b_M_letter 6 = .ok (.iload_n 0, 1) := by decide +kernel
theorem d_M_letter_7 : decode b_M_letter 7 = .ok (.bipush (126), 2) := by decide +kernel
theorem d_M_letter_9 : decode b_M_letter 9 = .ok (.if_icmp .gt (19), 3) := by decide +kernel
theorem d_M_letter_12 : decode b_M_letter 12 = .ok (.iload_n 0, 1) := by decide +kernel
theorem d_M_letter_13 : decode b_M_letter 13 = .ok (.bipush (58), 2) := by decide +kernel
theorem d_M_letter_15 : decode b_M_letter 15 = .ok (.if_icmp .eq (13), 3) := by decide +kernel
theorem d_M_letter_18 : decode b_M_letter 18 = .ok (.iload_n 0, 1) := by decide +kernel
theorem d_M_letter_19 : decode b_M_letter 19 = .ok (.bipush (124), 2) := by decide +kernel
theorem d_M_letter_21 : decode b_M_letter 21 = .ok (.if_icmp .eq (7), 3) := by decide +kernel
theorem d_M_letter_24 : decode b_M_letter 24 = .ok (.iconst 1, 1) := by decide +kernel
theorem d_M_letter_25 : decode b_M_letter 25 = .ok (.goto (4), 3) := by decide +kernel
theorem d_M_letter_28 : decode b_M_letter 28 = .ok (.iconst 0, 1) := by decide +kernel
theorem d_M_letter_29 : decode b_M_letter 29 = .ok (.ireturn, 1) := by decide +kernel
def f_M_letter (x : Int32) : Bool := if x < 32 then false else if 126 < x then false else if x = 58 then false else if x = 124 then false else true
set_option maxHeartbeats 4000000 in
set_option maxRecDepth 100000 in
theorem c_M_letter (l : Launch) (D : va_G) (G : Nat → ClassId) (A : Nat → Prop) (Z : va_W) (x : Int32) : hq_FI l D G A y_M_letter b_M_letter 1 .boolean 0 [.int x] ([] ++ Z) (hq_z (f_M_letter x)) ([] ++ Z) := by
  refine hq_bI (by decide) (Nat.le_of_ble_eq_true rfl) (fun r u h => by rw [h]; exact hq_znar _) ?_
  intro p e s m args below meth c Q hx hb hml hts hown hA hK hN hret ls H locs hl hP hD hS
  have hown : s.vm.findClass "HashedLearnerModel" = some m.cls := hown
  have hl : lv_has ls 1 [(0, .int x)] := hl
  refine lv_iload_n hx hb d_M_letter_0 rfl (lv_at hl 0 rfl) ?_
  refine lv_bipush (v := 32) hx hb d_M_letter_1 (by decide) ?_
  refine lv_icmp_lt (tgt := 28) hx hb d_M_letter_3 rfl (fun c3 => ?_) (fun c3 => ?_)
  · -- 3 taken
    have c3 : x < 32 := c3
    refine lv_iconst (v := 0) hx hb d_M_letter_28 (by decide) ?_
    exact hret 0 () H locs 29 ls d_M_letter_29 (by rw [f_M_letter, if_pos c3] <;> rfl) hP hD hS
  · -- 3 not taken
    have c3 : ¬ x < 32 := c3
    refine lv_iload_n hx hb d_M_letter_6 rfl (lv_at hl 0 rfl) ?_
    refine lv_bipush (v := 126) hx hb d_M_letter_7 (by decide) ?_
    refine lv_icmp_gt (tgt := 28) hx hb d_M_letter_9 rfl (fun c9 => ?_) (fun c9 => ?_)
    · -- 9 taken
      have c9 : 126 < x := c9
      refine lv_iconst (v := 0) hx hb d_M_letter_28 (by decide) ?_
      exact hret 0 () H locs 29 ls d_M_letter_29 (by rw [f_M_letter, if_neg c3, if_pos c9] <;> rfl) hP hD hS
    · -- 9 not taken
      have c9 : ¬ 126 < x := c9
      refine lv_iload_n hx hb d_M_letter_12 rfl (lv_at hl 0 rfl) ?_
      refine lv_bipush (v := 58) hx hb d_M_letter_13 (by decide) ?_
      refine lv_icmp_eq (tgt := 28) hx hb d_M_letter_15 rfl (fun c15 => ?_) (fun c15 => ?_)
      · -- 15 taken
        have c15 : x = 58 := c15
        refine lv_iconst (v := 0) hx hb d_M_letter_28 (by decide) ?_
        exact hret 0 () H locs 29 ls d_M_letter_29 (by rw [f_M_letter, if_neg c3, if_neg c9, if_pos c15] <;> rfl) hP hD hS
      · -- 15 not taken
        have c15 : ¬ x = 58 := c15
        refine lv_iload_n hx hb d_M_letter_18 rfl (lv_at hl 0 rfl) ?_
        refine lv_bipush (v := 124) hx hb d_M_letter_19 (by decide) ?_
        refine lv_icmp_eq (tgt := 28) hx hb d_M_letter_21 rfl (fun c21 => ?_) (fun c21 => ?_)
        · -- 21 taken
          have c21 : x = 124 := c21
          refine lv_iconst (v := 0) hx hb d_M_letter_28 (by decide) ?_
          exact hret 0 () H locs 29 ls d_M_letter_29 (by rw [f_M_letter, if_neg c3, if_neg c9, if_neg c15, if_pos c21] <;> rfl) hP hD hS
        · -- 21 not taken
          have c21 : ¬ x = 124 := c21
          refine lv_iconst (v := 1) hx hb d_M_letter_24 (by decide) ?_
          refine lv_goto (tgt := 29) hx hb d_M_letter_25 rfl ?_
          exact hret 1 () H locs 29 ls d_M_letter_29 (by rw [f_M_letter, if_neg c3, if_neg c9, if_neg c15, if_neg c21] <;> rfl) hP hD hS
theorem d_M_digit_0 : decode b_M_digit 0 = .ok (.iload_n 0, 1) := by decide +kernel
theorem d_M_digit_1 : decode b_M_digit 1 = .ok (.bipush (48), 2) := by decide +kernel
theorem d_M_digit_3 : decode b_M_digit 3 = .ok (.if_icmp .lt (13), 3) := by decide +kernel
theorem d_M_digit_6 : decode b_M_digit 6 = .ok (.iload_n 0, 1) := by decide +kernel
theorem d_M_digit_7 : decode b_M_digit 7 = .ok (.bipush (57), 2) := by decide +kernel
theorem d_M_digit_9 : decode b_M_digit 9 = .ok (.if_icmp .gt (7), 3) := by decide +kernel
theorem d_M_digit_12 : decode b_M_digit 12 = .ok (.iconst 1, 1) := by decide +kernel
theorem d_M_digit_13 : decode b_M_digit 13 = .ok (.goto (4), 3) := by decide +kernel
theorem d_M_digit_16 : decode b_M_digit 16 = .ok (.iconst 0, 1) := by decide +kernel
theorem d_M_digit_17 : decode b_M_digit 17 = .ok (.ireturn, 1) := by decide +kernel
set_option maxHeartbeats 4000000 in
set_option maxRecDepth 100000 in
theorem c_M_digit (l : Launch) (D : va_G) (G : Nat → ClassId) (A : Nat → Prop) (Z : va_W) (x : Int32) : hq_FI l D G A y_M_digit b_M_digit 1 .boolean 0 [.int x] ([] ++ Z) (hq_z (hq_dig x)) ([] ++ Z) := by
  refine hq_bI (by decide) (Nat.le_of_ble_eq_true rfl) (fun r u h => by rw [h]; exact hq_znar _) ?_
  intro p e s m args below meth c Q hx hb hml hts hown hA hK hN hret ls H locs hl hP hD hS
  have hown : s.vm.findClass "HashedLearnerModel" = some m.cls := hown
  have hl : lv_has ls 1 [(0, .int x)] := hl
  refine lv_iload_n hx hb d_M_digit_0 rfl (lv_at hl 0 rfl) ?_
  refine lv_bipush (v := 48) hx hb d_M_digit_1 (by decide) ?_
  refine lv_icmp_lt (tgt := 16) hx hb d_M_digit_3 rfl (fun c3 => ?_) (fun c3 => ?_)
  · -- 3 taken
    have c3 : x < 48 := c3
    refine lv_iconst (v := 0) hx hb d_M_digit_16 (by decide) ?_
    exact hret 0 () H locs 17 ls d_M_digit_17 (by rw [hq_dig_lo c3] <;> rfl) hP hD hS
  · -- 3 not taken
    have c3 : ¬ x < 48 := c3
    refine lv_iload_n hx hb d_M_digit_6 rfl (lv_at hl 0 rfl) ?_
    refine lv_bipush (v := 57) hx hb d_M_digit_7 (by decide) ?_
    refine lv_icmp_gt (tgt := 16) hx hb d_M_digit_9 rfl (fun c9 => ?_) (fun c9 => ?_)
    · -- 9 taken
      have c9 : 57 < x := c9
      refine lv_iconst (v := 0) hx hb d_M_digit_16 (by decide) ?_
      exact hret 0 () H locs 17 ls d_M_digit_17 (by rw [hq_dig_hi c9] <;> rfl) hP hD hS
    · -- 9 not taken
      have c9 : ¬ 57 < x := c9
      refine lv_iconst (v := 1) hx hb d_M_digit_12 (by decide) ?_
      refine lv_goto (tgt := 17) hx hb d_M_digit_13 rfl ?_
      exact hret 1 () H locs 17 ls d_M_digit_17 (by rw [hq_dig_in c3 c9] <;> rfl) hP hD hS
theorem d_M_roll_0 : decode b_M_roll 0 = .ok (.iload_n 0, 1) := by decide +kernel
theorem d_M_roll_1 : decode b_M_roll 1 = .ok (.iload_n 1, 1) := by decide +kernel
theorem d_M_roll_2 : decode b_M_roll 2 = .ok (.ishl, 1) := by decide +kernel
theorem d_M_roll_3 : decode b_M_roll 3 = .ok (.iload_n 0, 1) := by decide +kernel
theorem d_M_roll_4 : decode b_M_roll 4 = .ok (.bipush (32), 2) := by decide +kernel
theorem d_M_roll_6 : decode b_M_roll 6 = .ok (.iload_n 1, 1) := by decide +kernel
theorem d_M_roll_7 : decode b_M_roll 7 = .ok (.isub, 1) := by decide +kernel
theorem d_M_roll_8 : decode b_M_roll 8 = .ok (.iushr, 1) := by decide +kernel
theorem d_M_roll_9 : decode b_M_roll 9 = .ok (.ior, 1) := by decide +kernel
theorem d_M_roll_10 : decode b_M_roll 10 = .ok (.ireturn, 1) := by decide +kernel
def f_M_roll (v : Int32) (q : Int32) : Int32 := (v <<< (q &&& 31)) ||| (((Int32.toUInt32 v) >>> ((Int32.toUInt32 (32 - q)) &&& Int32.toUInt32 31)).toInt32)
set_option maxHeartbeats 4000000 in
set_option maxRecDepth 100000 in
theorem c_M_roll (l : Launch) (D : va_G) (G : Nat → ClassId) (A : Nat → Prop) (Z : va_W) (v : Int32) (q : Int32) : hq_FI l D G A y_M_roll b_M_roll 2 .int 0 [.int v, .int q] ([] ++ Z) (f_M_roll v q) ([] ++ Z) := by
  refine hq_bI (by decide) (Nat.le_of_ble_eq_true rfl) (fun _ _ _ => rfl) ?_
  intro p e s m args below meth c Q hx hb hml hts hown hA hK hN hret ls H locs hl hP hD hS
  have hown : s.vm.findClass "HashedLearnerModel" = some m.cls := hown
  have hl : lv_has ls 2 [(0, .int v), (1, .int q)] := hl
  refine lv_iload_n hx hb d_M_roll_0 rfl (lv_at hl 0 rfl) ?_
  refine lv_iload_n hx hb d_M_roll_1 rfl (lv_at hl 1 rfl) ?_
  refine lv_ishl hx hb d_M_roll_2 ?_
  refine lv_iload_n hx hb d_M_roll_3 rfl (lv_at hl 0 rfl) ?_
  refine lv_bipush (v := 32) hx hb d_M_roll_4 (by decide) ?_
  refine lv_iload_n hx hb d_M_roll_6 rfl (lv_at hl 1 rfl) ?_
  refine lv_isub hx hb d_M_roll_7 ?_
  refine lv_iushr (v := ((Int32.toUInt32 v) >>> ((Int32.toUInt32 (32 - q)) &&& Int32.toUInt32 31)).toInt32) hx hb d_M_roll_8 rfl ?_
  refine lv_ior hx hb d_M_roll_9 ?_
  exact hret ((v <<< (q &&& 31)) ||| (((Int32.toUInt32 v) >>> ((Int32.toUInt32 (32 - q)) &&& Int32.toUInt32 31)).toInt32)) () H locs 10 ls d_M_roll_10 (by rw [f_M_roll] <;> rfl) hP hD hS
theorem d_M_mixed_0 : decode b_M_mixed 0 = .ok (.iload_n 0, 1) := by decide +kernel
theorem d_M_mixed_1 : decode b_M_mixed 1 = .ok (.ldc 146, 2) := by decide +kernel
theorem d_M_mixed_3 : decode b_M_mixed 3 = .ok (.imul, 1) := by decide +kernel
theorem d_M_mixed_4 : decode b_M_mixed 4 = .ok (.bipush (15), 2) := by decide +kernel
theorem d_M_mixed_6 : decode b_M_mixed 6 = .ok (.invokestatic 147, 3) := by decide +kernel
theorem d_M_mixed_9 : decode b_M_mixed 9 = .ok (.ldc 150, 2) := by decide +kernel
theorem d_M_mixed_11 : decode b_M_mixed 11 = .ok (.imul, 1) := by decide +kernel
theorem d_M_mixed_12 : decode b_M_mixed 12 = .ok (.ireturn, 1) := by decide +kernel
def f_M_mixed (v : Int32) : Int32 := (f_M_roll (v * (-862048943)) 15) * 461845907
set_option maxHeartbeats 4000000 in
set_option maxRecDepth 100000 in
theorem c_M_mixed (l : Launch) (D : va_G) (G : Nat → ClassId) (A : Nat → Prop) (Z : va_W) (v : Int32) : hq_FI l D G A y_M_mixed b_M_mixed 1 .int 1 [.int v] ([] ++ Z) (f_M_mixed v) ([] ++ Z) := by
  refine hq_bI (by decide) (Nat.le_of_ble_eq_true rfl) (fun _ _ _ => rfl) ?_
  intro p e s m args below meth c Q hx hb hml hts hown hA hK hN hret ls H locs hl hP hD hS
  have hown : s.vm.findClass "HashedLearnerModel" = some m.cls := hown
  have hl : lv_has ls 1 [(0, .int v)] := hl
  refine lv_iload_n hx hb d_M_mixed_0 rfl (lv_at hl 0 rfl) ?_
  refine lv_ldc (v := (-862048943)) hx hb hown (hts _ ki_M_146) d_M_mixed_1 ?_
  refine lv_imul hx hb d_M_mixed_3 ?_
  refine lv_bipush (v := 15) hx hb d_M_mixed_4 (by decide) ?_
  have hPc : va_P D hq_cl ([] ++ Z) H := hP
  have hDc : va_D A ([] ++ Z) := hD
  refine hq_iF (hq_rS (As := [.int (v * (-862048943)), .int 15]) (rest := []) hx hb hml hown hts (c_M_roll l D G A Z (v * (-862048943)) 15) yy_M_roll lk_M_147 hA hK hN hS hPc hDc rfl hl.1 rfl (Nat.le_of_ble_eq_true rfl) d_M_mixed_6 ⟨by decide, by decide⟩ ⟨by decide, by decide⟩) hS (fun H locs hP hD hS => ?_)
  have hP : va_P D hq_cl ([] ++ Z) H := hP
  have hD : va_D A ([] ++ Z) := hD
  refine lv_ldc (v := 461845907) hx hb hown (hts _ ki_M_150) d_M_mixed_9 ?_
  refine lv_imul hx hb d_M_mixed_11 ?_
  exact hret ((f_M_roll (v * (-862048943)) 15) * 461845907) () H locs 12 ls d_M_mixed_12 (by rw [f_M_mixed] <;> rfl) hP hD hS
theorem d_M_begin_0 : decode b_M_begin 0 = .ok (.iload_n 1, 1) := by decide +kernel
theorem d_M_begin_1 : decode b_M_begin 1 = .ok (.istore_n 3, 1) := by decide +kernel
theorem d_M_begin_2 : decode b_M_begin 2 = .ok (.iload_n 3, 1) := by decide +kernel
theorem d_M_begin_3 : decode b_M_begin 3 = .ok (.iload_n 2, 1) := by decide +kernel
theorem d_M_begin_4 : decode b_M_begin 4 = .ok (.if_icmp .ge (20), 3) := by decide +kernel
theorem d_M_begin_7 : decode b_M_begin 7 = .ok (.aload_n 0, 1) := by decide +kernel
theorem d_M_begin_8 : decode b_M_begin 8 = .ok (.getfield 13, 3) := by decide +kernel
theorem d_M_begin_11 : decode b_M_begin 11 = .ok (.iload_n 3, 1) := by decide +kernel
theorem d_M_begin_12 : decode b_M_begin 12 = .ok (.iaload, 1) := by decide +kernel
theorem d_M_begin_13 : decode b_M_begin 13 = .ok (.bipush (32), 2) := by decide +kernel
theorem d_M_begin_15 : decode b_M_begin 15 = .ok (.if_icmp .ne (9), 3) := by decide +kernel
theorem d_M_begin_18 : decode b_M_begin 18 = .ok (.iinc 3 (1), 3) := by decide +kernel
theorem d_M_begin_21 : decode b_M_begin 21 = .ok (.goto (-19), 3) := by decide +kernel
theorem d_M_begin_24 : decode b_M_begin 24 = .ok (.iload_n 3, 1) := by decide +kernel
theorem d_M_begin_25 : decode b_M_begin 25 = .ok (.ireturn, 1) := by decide +kernel
set_option maxHeartbeats 4000000 in
set_option maxRecDepth 100000 in
theorem c_M_begin (l : Launch) (D : va_G) (G : Nat → ClassId) (A : Nat → Prop) (Z : va_W) (h : Nat) (fs : List Value) (ta : Nat) (tx : Nat → Int32) (i : Nat) (j : Nat) (hf5 : fs[5]? = some (.ref ta)) (hj : j ≤ 2000) (hi : i < 2 ^ 30) : hq_FI l D G A y_M_begin b_M_begin 4 .int 0 [.ref h, .int (nI i), .int (nI j)] ([(h, .inr (8, fs)), hq_ai ta (G 0) 2000 tx] ++ Z) (nI (hq_skp tx 32 i (j - i))) ([(h, .inr (8, fs)), hq_ai ta (G 0) 2000 tx] ++ Z) := by
  refine hq_bI (by decide) (Nat.le_of_ble_eq_true rfl) (fun _ _ _ => rfl) ?_
  intro p e s m args below meth c Q hx hb hml hts hown hA hK hN hret ls H locs hl hP hD hS
  have hown : s.vm.findClass "HashedLearnerModel" = some m.cls := hown
  have hl : lv_has ls 4 [(0, .ref h), (1, .int (nI i)), (2, .int (nI j))] := hl
  refine lv_iload_n hx hb d_M_begin_0 rfl (lv_at hl 1 rfl) ?_
  refine lv_istore_n (nL := 4) (lv' := [(3, .int (nI i)), (0, .ref h), (1, .int (nI i)), (2, .int (nI j))]) hx hb d_M_begin_1 rfl hl (by decide) rfl (fun ls hl => ?_)
  have cut2 : ∀ (kz : Nat) (a : Nat) (ls : Array Slot) (H : Heap) (locs : List Loc), j - a = kz → (a < 2 ^ 30) → (hq_skp tx 32 i (j - i) = hq_skp tx 32 a (j - a)) → lv_has ls 4 [(0, .ref h), (2, .int (nI j)), (3, .int (nI a))] → va_P D hq_cl ([(h, .inr (8, fs)), hq_ai ta (G 0) 2000 tx] ++ Z) H → va_D A ([(h, .inr (8, fs)), hq_ai ta (G 0) 2000 tx] ++ Z) → va_S A s.heap H locs → W p l e (hq_rm 0 0 0) s m args below meth c H locs 0 0 Q (F0 m 2 ls []) := by
    intro kz
    induction kz using Nat.strongRecOn with
    | ind kz ih =>
      intro a ls H locs hkz ha hF hl hP hD hS
      subst hkz
      refine lv_iload_n hx hb d_M_begin_2 rfl (lv_at hl 2 rfl) ?_
      refine lv_iload_n hx hb d_M_begin_3 rfl (lv_at hl 1 rfl) ?_
      refine lv_icmp_ge (tgt := 24) hx hb d_M_begin_4 rfl (fun c4 => ?_) (fun c4 => ?_)
      · -- 4 taken
        have c4 : j ≤ a := (nI_leI (a := j) (b := a) (by omega) (by omega)).mp c4
        refine lv_iload_n hx hb d_M_begin_24 rfl (lv_at hl 2 rfl) ?_
        exact hret (nI a) () H locs 25 ls d_M_begin_25 (by first | rw [hF, hq_skp_end (t := tx) (c := 32) (a := a) (j := j) (by omega)] | rw [hF, hq_skp_no (t := tx) (c := 32) (a := a) (j := j) (by omega) c15]) hP hD hS
      · -- 4 not taken
        have c4 : ¬ j ≤ a := fun h => c4 ((nI_leI (a := j) (b := a) (by omega) (by omega)).mpr h)
        refine lv_aload_n hx hb d_M_begin_7 rfl (lv_at hl 0 rfl) ?_
        refine va_get (D := D) (ci := 8) (v := .ref ta) (C := R_M) (T := F_M) (N := 34) hx hb hts uw_M hown hK hP 0 rfl rfl 5 (by decide) (hts _ fl_M_13) (fun _ h9 => h9) hf5 d_M_begin_8 ?_
        refine lv_iload_n hx hb d_M_begin_11 rfl (lv_at hl 2 rfl) ?_
        refine hq_iald (j := a) hx hb hK hP 1 rfl (by omega) (by omega) d_M_begin_12 ?_
        refine lv_bipush (v := 32) hx hb d_M_begin_13 (by decide) ?_
        refine lv_icmp_ne (tgt := 24) hx hb d_M_begin_15 rfl (fun c15 => ?_) (fun c15 => ?_)
        · -- 15 taken
          have c15 : ¬ (tx a) = 32 := c15
          refine lv_iload_n hx hb d_M_begin_24 rfl (lv_at hl 2 rfl) ?_
          exact hret (nI a) () H locs 25 ls d_M_begin_25 (by first | rw [hF, hq_skp_end (t := tx) (c := 32) (a := a) (j := j) (by omega)] | rw [hF, hq_skp_no (t := tx) (c := 32) (a := a) (j := j) (by omega) c15]) hP hD hS
        · -- 15 not taken
          have c15 : (tx a) = 32 := c15
          refine lv_iinc (nL := 4) (k := 2) (v := nI (a + 1)) (lv' := [(3, .int (nI (a + 1))), (0, .ref h), (2, .int (nI j))]) hx hb d_M_begin_18 hl rfl (nI_add a 1) (by decide) rfl (fun ls hl => ?_)
          refine lv_goto (tgt := 2) hx hb d_M_begin_21 rfl ?_
          exact ih _ (by omega) (a + 1) ls H locs rfl (by first | assumption | omega) (by first | rfl | exact hF.trans (hq_skp_yes (by omega) c15)) (lv_sub hl [1, 2, 0] rfl) hP hD hS
  exact cut2 _ i ls H locs rfl (by first | assumption | omega) (by first | rfl | exact hF.trans (hq_skp_yes (by omega) c15)) (lv_sub hl [1, 3, 0] rfl) hP hD hS
theorem d_M_end_0 : decode b_M_end 0 = .ok (.iload_n 1, 1) := by decide +kernel
theorem d_M_end_1 : decode b_M_end 1 = .ok (.istore_n 3, 1) := by decide +kernel
theorem d_M_end_2 : decode b_M_end 2 = .ok (.iload_n 3, 1) := by decide +kernel
theorem d_M_end_3 : decode b_M_end 3 = .ok (.iload_n 2, 1) := by decide +kernel
theorem d_M_end_4 : decode b_M_end 4 = .ok (.if_icmp .ge (20), 3) := by decide +kernel
theorem d_M_end_7 : decode b_M_end 7 = .ok (.aload_n 0, 1) := by decide +kernel
theorem d_M_end_8 : decode b_M_end 8 = .ok (.getfield 13, 3) := by decide +kernel
theorem d_M_end_11 : decode b_M_end 11 = .ok (.iload_n 3, 1) := by decide +kernel
theorem d_M_end_12 : decode b_M_end 12 = .ok (.iaload, 1) := by decide +kernel
theorem d_M_end_13 : decode b_M_end 13 = .ok (.bipush (32), 2) := by decide +kernel
theorem d_M_end_15 : decode b_M_end 15 = .ok (.if_icmp .eq (9), 3) := by decide +kernel
theorem d_M_end_18 : decode b_M_end 18 = .ok (.iinc 3 (1), 3) := by decide +kernel
theorem d_M_end_21 : decode b_M_end 21 = .ok (.goto (-19), 3) := by decide +kernel
theorem d_M_end_24 : decode b_M_end 24 = .ok (.iload_n 3, 1) := by decide +kernel
theorem d_M_end_25 : decode b_M_end 25 = .ok (.ireturn, 1) := by decide +kernel
set_option maxHeartbeats 4000000 in
set_option maxRecDepth 100000 in
theorem c_M_end (l : Launch) (D : va_G) (G : Nat → ClassId) (A : Nat → Prop) (Z : va_W) (h : Nat) (fs : List Value) (ta : Nat) (tx : Nat → Int32) (i : Nat) (j : Nat) (hf5 : fs[5]? = some (.ref ta)) (hj : j ≤ 2000) (hi : i < 2 ^ 30) : hq_FI l D G A y_M_end b_M_end 4 .int 0 [.ref h, .int (nI i), .int (nI j)] ([(h, .inr (8, fs)), hq_ai ta (G 0) 2000 tx] ++ Z) (nI (hq_fnd tx 32 i (j - i))) ([(h, .inr (8, fs)), hq_ai ta (G 0) 2000 tx] ++ Z) := by
  refine hq_bI (by decide) (Nat.le_of_ble_eq_true rfl) (fun _ _ _ => rfl) ?_
  intro p e s m args below meth c Q hx hb hml hts hown hA hK hN hret ls H locs hl hP hD hS
  have hown : s.vm.findClass "HashedLearnerModel" = some m.cls := hown
  have hl : lv_has ls 4 [(0, .ref h), (1, .int (nI i)), (2, .int (nI j))] := hl
  refine lv_iload_n hx hb d_M_end_0 rfl (lv_at hl 1 rfl) ?_
  refine lv_istore_n (nL := 4) (lv' := [(3, .int (nI i)), (0, .ref h), (1, .int (nI i)), (2, .int (nI j))]) hx hb d_M_end_1 rfl hl (by decide) rfl (fun ls hl => ?_)
  have cut2 : ∀ (kz : Nat) (a : Nat) (ls : Array Slot) (H : Heap) (locs : List Loc), j - a = kz → (a < 2 ^ 30) → (hq_fnd tx 32 i (j - i) = hq_fnd tx 32 a (j - a)) → lv_has ls 4 [(0, .ref h), (2, .int (nI j)), (3, .int (nI a))] → va_P D hq_cl ([(h, .inr (8, fs)), hq_ai ta (G 0) 2000 tx] ++ Z) H → va_D A ([(h, .inr (8, fs)), hq_ai ta (G 0) 2000 tx] ++ Z) → va_S A s.heap H locs → W p l e (hq_rm 0 0 0) s m args below meth c H locs 0 0 Q (F0 m 2 ls []) := by
    intro kz
    induction kz using Nat.strongRecOn with
    | ind kz ih =>
      intro a ls H locs hkz ha hF hl hP hD hS
      subst hkz
      refine lv_iload_n hx hb d_M_end_2 rfl (lv_at hl 2 rfl) ?_
      refine lv_iload_n hx hb d_M_end_3 rfl (lv_at hl 1 rfl) ?_
      refine lv_icmp_ge (tgt := 24) hx hb d_M_end_4 rfl (fun c4 => ?_) (fun c4 => ?_)
      · -- 4 taken
        have c4 : j ≤ a := (nI_leI (a := j) (b := a) (by omega) (by omega)).mp c4
        refine lv_iload_n hx hb d_M_end_24 rfl (lv_at hl 2 rfl) ?_
        exact hret (nI a) () H locs 25 ls d_M_end_25 (by first | rw [hF, hq_fnd_end (t := tx) (c := 32) (a := a) (j := j) (by omega)] | rw [hF, hq_fnd_yes (t := tx) (c := 32) (a := a) (j := j) (by omega) c15]) hP hD hS
      · -- 4 not taken
        have c4 : ¬ j ≤ a := fun h => c4 ((nI_leI (a := j) (b := a) (by omega) (by omega)).mpr h)
        refine lv_aload_n hx hb d_M_end_7 rfl (lv_at hl 0 rfl) ?_
        refine va_get (D := D) (ci := 8) (v := .ref ta) (C := R_M) (T := F_M) (N := 34) hx hb hts uw_M hown hK hP 0 rfl rfl 5 (by decide) (hts _ fl_M_13) (fun _ h9 => h9) hf5 d_M_end_8 ?_
        refine lv_iload_n hx hb d_M_end_11 rfl (lv_at hl 2 rfl) ?_
        refine hq_iald (j := a) hx hb hK hP 1 rfl (by omega) (by omega) d_M_end_12 ?_
        refine lv_bipush (v := 32) hx hb d_M_end_13 (by decide) ?_
        refine lv_icmp_eq (tgt := 24) hx hb d_M_end_15 rfl (fun c15 => ?_) (fun c15 => ?_)
        · -- 15 taken
          have c15 : (tx a) = 32 := c15
          refine lv_iload_n hx hb d_M_end_24 rfl (lv_at hl 2 rfl) ?_
          exact hret (nI a) () H locs 25 ls d_M_end_25 (by first | rw [hF, hq_fnd_end (t := tx) (c := 32) (a := a) (j := j) (by omega)] | rw [hF, hq_fnd_yes (t := tx) (c := 32) (a := a) (j := j) (by omega) c15]) hP hD hS
        · -- 15 not taken
          have c15 : ¬ (tx a) = 32 := c15
          refine lv_iinc (nL := 4) (k := 2) (v := nI (a + 1)) (lv' := [(3, .int (nI (a + 1))), (0, .ref h), (2, .int (nI j))]) hx hb d_M_end_18 hl rfl (nI_add a 1) (by decide) rfl (fun ls hl => ?_)
          refine lv_goto (tgt := 2) hx hb d_M_end_21 rfl ?_
          exact ih _ (by omega) (a + 1) ls H locs rfl (by first | assumption | omega) (by first | rfl | exact hF.trans (hq_fnd_no (by omega) c15)) (lv_sub hl [1, 2, 0] rfl) hP hD hS
  exact cut2 _ i ls H locs rfl (by first | assumption | omega) (by first | rfl | exact hF.trans (hq_fnd_no (by omega) c15)) (lv_sub hl [1, 3, 0] rfl) hP hD hS
theorem d_M_find_0 : decode b_M_find 0 = .ok (.iload_n 1, 1) := by decide +kernel
theorem d_M_find_1 : decode b_M_find 1 = .ok (.istore 4, 2) := by decide +kernel
theorem d_M_find_3 : decode b_M_find 3 = .ok (.iload 4, 2) := by decide +kernel
theorem d_M_find_5 : decode b_M_find 5 = .ok (.iload_n 2, 1) := by decide +kernel
theorem d_M_find_6 : decode b_M_find 6 = .ok (.if_icmp .ge (20), 3) := by decide +kernel
theorem d_M_find_9 : decode b_M_find 9 = .ok (.aload_n 0, 1) := by decide +kernel
theorem d_M_find_10 : decode b_M_find 10 = .ok (.getfield 13, 3) := by decide +kernel
theorem d_M_find_13 : decode b_M_find 13 = .ok (.iload 4, 2) := by decide +kernel
theorem d_M_find_15 : decode b_M_find 15 = .ok (.iaload, 1) := by decide +kernel
theorem d_M_find_16 : decode b_M_find 16 = .ok (.iload_n 3, 1) := by decide +kernel
theorem d_M_find_17 : decode b_M_find 17 = .ok (.if_icmp .eq (9), 3) := by decide +kernel
theorem d_M_find_20 : decode b_M_find 20 = .ok (.iinc 4 (1), 3) := by decide +kernel
theorem d_M_find_23 : decode b_M_find 23 = .ok (.goto (-20), 3) := by decide +kernel
theorem d_M_find_26 : decode b_M_find 26 = .ok (.iload 4, 2) := by decide +kernel
theorem d_M_find_28 : decode b_M_find 28 = .ok (.ireturn, 1) := by decide +kernel
set_option maxHeartbeats 4000000 in
set_option maxRecDepth 100000 in
theorem c_M_find (l : Launch) (D : va_G) (G : Nat → ClassId) (A : Nat → Prop) (Z : va_W) (h : Nat) (fs : List Value) (ta : Nat) (tx : Nat → Int32) (i : Nat) (j : Nat) (ch : Int32) (hf5 : fs[5]? = some (.ref ta)) (hj : j ≤ 2000) (hi : i < 2 ^ 30) : hq_FI l D G A y_M_find b_M_find 5 .int 0 [.ref h, .int (nI i), .int (nI j), .int ch] ([(h, .inr (8, fs)), hq_ai ta (G 0) 2000 tx] ++ Z) (nI (hq_fnd tx ch i (j - i))) ([(h, .inr (8, fs)), hq_ai ta (G 0) 2000 tx] ++ Z) := by
  refine hq_bI (by decide) (Nat.le_of_ble_eq_true rfl) (fun _ _ _ => rfl) ?_
  intro p e s m args below meth c Q hx hb hml hts hown hA hK hN hret ls H locs hl hP hD hS
  have hown : s.vm.findClass "HashedLearnerModel" = some m.cls := hown
  have hl : lv_has ls 5 [(0, .ref h), (1, .int (nI i)), (2, .int (nI j)), (3, .int ch)] := hl
  refine lv_iload_n hx hb d_M_find_0 rfl (lv_at hl 1 rfl) ?_
  refine lv_istore (nL := 5) (lv' := [(4, .int (nI i)), (0, .ref h), (1, .int (nI i)), (2, .int (nI j)), (3, .int ch)]) hx hb d_M_find_1 hl (by decide) rfl (fun ls hl => ?_)
  have cut3 : ∀ (kz : Nat) (a : Nat) (ls : Array Slot) (H : Heap) (locs : List Loc), j - a = kz → (a < 2 ^ 30) → (hq_fnd tx ch i (j - i) = hq_fnd tx ch a (j - a)) → lv_has ls 5 [(0, .ref h), (2, .int (nI j)), (3, .int ch), (4, .int (nI a))] → va_P D hq_cl ([(h, .inr (8, fs)), hq_ai ta (G 0) 2000 tx] ++ Z) H → va_D A ([(h, .inr (8, fs)), hq_ai ta (G 0) 2000 tx] ++ Z) → va_S A s.heap H locs → W p l e (hq_rm 0 0 0) s m args below meth c H locs 0 0 Q (F0 m 3 ls []) := by
    intro kz
    induction kz using Nat.strongRecOn with
    | ind kz ih =>
      intro a ls H locs hkz ha hF hl hP hD hS
      subst hkz
      refine lv_iload hx hb d_M_find_3 (lv_at hl 3 rfl) ?_
      refine lv_iload_n hx hb d_M_find_5 rfl (lv_at hl 1 rfl) ?_
      refine lv_icmp_ge (tgt := 26) hx hb d_M_find_6 rfl (fun c6 => ?_) (fun c6 => ?_)
      · -- 6 taken
        have c6 : j ≤ a := (nI_leI (a := j) (b := a) (by omega) (by omega)).mp c6
        refine lv_iload hx hb d_M_find_26 (lv_at hl 3 rfl) ?_
        exact hret (nI a) () H locs 28 ls d_M_find_28 (by first | rw [hF, hq_fnd_end (t := tx) (c := ch) (a := a) (j := j) (by omega)] | rw [hF, hq_fnd_yes (t := tx) (c := ch) (a := a) (j := j) (by omega) c17]) hP hD hS
      · -- 6 not taken
        have c6 : ¬ j ≤ a := fun h => c6 ((nI_leI (a := j) (b := a) (by omega) (by omega)).mpr h)
        refine lv_aload_n hx hb d_M_find_9 rfl (lv_at hl 0 rfl) ?_
        refine va_get (D := D) (ci := 8) (v := .ref ta) (C := R_M) (T := F_M) (N := 34) hx hb hts uw_M hown hK hP 0 rfl rfl 5 (by decide) (hts _ fl_M_13) (fun _ h9 => h9) hf5 d_M_find_10 ?_
        refine lv_iload hx hb d_M_find_13 (lv_at hl 3 rfl) ?_
        refine hq_iald (j := a) hx hb hK hP 1 rfl (by omega) (by omega) d_M_find_15 ?_
        refine lv_iload_n hx hb d_M_find_16 rfl (lv_at hl 2 rfl) ?_
        refine lv_icmp_eq (tgt := 26) hx hb d_M_find_17 rfl (fun c17 => ?_) (fun c17 => ?_)
        · -- 17 taken
          have c17 : (tx a) = ch := c17
          refine lv_iload hx hb d_M_find_26 (lv_at hl 3 rfl) ?_
          exact hret (nI a) () H locs 28 ls d_M_find_28 (by first | rw [hF, hq_fnd_end (t := tx) (c := ch) (a := a) (j := j) (by omega)] | rw [hF, hq_fnd_yes (t := tx) (c := ch) (a := a) (j := j) (by omega) c17]) hP hD hS
        · -- 17 not taken
          have c17 : ¬ (tx a) = ch := c17
          refine lv_iinc (nL := 5) (k := 3) (v := nI (a + 1)) (lv' := [(4, .int (nI (a + 1))), (0, .ref h), (2, .int (nI j)), (3, .int ch)]) hx hb d_M_find_20 hl rfl (nI_add a 1) (by decide) rfl (fun ls hl => ?_)
          refine lv_goto (tgt := 3) hx hb d_M_find_23 rfl ?_
          exact ih _ (by omega) (a + 1) ls H locs rfl (by first | assumption | omega) (by first | rfl | exact hF.trans (hq_fnd_no (by omega) c17)) (lv_sub hl [1, 2, 3, 0] rfl) hP hD hS
  exact cut3 _ i ls H locs rfl (by first | assumption | omega) (by first | rfl | exact hF.trans (hq_fnd_no (by omega) c17)) (lv_sub hl [1, 3, 4, 0] rfl) hP hD hS
