theorem d_Line_readNumber_0 : decode b_Line_readNumber 0 = .ok (.iload_n 1, 1) := by decide +kernel
theorem d_Line_readNumber_1 : decode b_Line_readNumber 1 = .ok (.iload_n 2, 1) := by decide +kernel
theorem d_Line_readNumber_2 : decode b_Line_readNumber 2 = .ok (.if_icmp .ge (18), 3) := by decide +kernel
theorem d_Line_readNumber_5 : decode b_Line_readNumber 5 = .ok (.aload_n 0, 1) := by decide +kernel
theorem d_Line_readNumber_6 : decode b_Line_readNumber 6 = .ok (.getfield 9, 3) := by decide +kernel
theorem d_Line_readNumber_9 : decode b_Line_readNumber 9 = .ok (.iload_n 1, 1) := by decide +kernel
theorem d_Line_readNumber_10 : decode b_Line_readNumber 10 = .ok (.caload, 1) := by decide +kernel
theorem d_Line_readNumber_11 : decode b_Line_readNumber 11 = .ok (.bipush (45), 2) := by decide +kernel
theorem d_Line_readNumber_13 : decode b_Line_readNumber 13 = .ok (.if_icmp .ne (7), 3) := by decide +kernel
theorem d_Line_readNumber_16 : decode b_Line_readNumber 16 = .ok (.iconst 1, 1) := by decide +kernel
theorem d_Line_readNumber_17 : decode b_Line_readNumber 17 = .ok (.goto (4), 3) := by decide +kernel
theorem d_Line_readNumber_20 : decode b_Line_readNumber 20 = .ok (.iconst 0, 1) := by decide +kernel
theorem d_Line_readNumber_21 : decode b_Line_readNumber 21 = .ok (.istore_n 3, 1) := by decide +kernel
theorem d_Line_readNumber_22 : decode b_Line_readNumber 22 = .ok (.iload_n 3, 1) := by decide +kernel
theorem d_Line_readNumber_23 : decode b_Line_readNumber 23 = .ok (.ifCond .eq (9), 3) := by decide +kernel
theorem d_Line_readNumber_26 : decode b_Line_readNumber 26 = .ok (.iload_n 1, 1) := by decide +kernel
theorem d_Line_readNumber_27 : decode b_Line_readNumber 27 = .ok (.iconst 1, 1) := by decide +kernel
theorem d_Line_readNumber_28 : decode b_Line_readNumber 28 = .ok (.iadd, 1) := by decide +kernel
theorem d_Line_readNumber_29 : decode b_Line_readNumber 29 = .ok (.goto (4), 3) := by decide +kernel
theorem d_Line_readNumber_32 : decode b_Line_readNumber 32 = .ok (.iload_n 1, 1) := by decide +kernel
theorem d_Line_readNumber_33 : decode b_Line_readNumber 33 = .ok (.istore 4, 2) := by decide +kernel
theorem d_Line_readNumber_35 : decode b_Line_readNumber 35 = .ok (.aload_n 0, 1) := by decide +kernel
theorem d_Line_readNumber_36 : decode b_Line_readNumber 36 = .ok (.bipush (46), 2) := by decide +kernel
theorem d_Line_readNumber_38 : decode b_Line_readNumber 38 = .ok (.iload 4, 2) := by decide +kernel
theorem d_Line_readNumber_40 : decode b_Line_readNumber 40 = .ok (.iload_n 2, 1) := by decide +kernel
theorem d_Line_readNumber_41 : decode b_Line_readNumber 41 = .ok (.invokevirtual 39, 3) := by decide +kernel
theorem d_Line_readNumber_44 : decode b_Line_readNumber 44 = .ok (.istore 5, 2) := by decide +kernel
theorem d_Line_readNumber_46 : decode b_Line_readNumber 46 = .ok (.aload_n 0, 1) := by decide +kernel
theorem d_Line_readNumber_47 : decode b_Line_readNumber 47 = .ok (.getfield 9, 3) := by decide +kernel
theorem d_Line_readNumber_50 : decode b_Line_readNumber 50 = .ok (.iload 4, 2) := by decide +kernel
theorem d_Line_readNumber_52 : decode b_Line_readNumber 52 = .ok (.iload 5, 2) := by decide +kernel
theorem d_Line_readNumber_54 : decode b_Line_readNumber 54 = .ok (.iconst 3, 1) := by decide +kernel
theorem d_Line_readNumber_55 : decode b_Line_readNumber 55 = .ok (.invokestatic 105, 3) := by decide +kernel
theorem d_Line_readNumber_58 : decode b_Line_readNumber 58 = .ok (.ifCond .ne (6), 3) := by decide +kernel
theorem d_Line_readNumber_61 : decode b_Line_readNumber 61 = .ok (.ldc 73, 2) := by decide +kernel
theorem d_Line_readNumber_63 : decode b_Line_readNumber 63 = .ok (.ireturn, 1) := by decide +kernel
theorem d_Line_readNumber_64 : decode b_Line_readNumber 64 = .ok (.bipush (100), 2) := by decide +kernel
theorem d_Line_readNumber_66 : decode b_Line_readNumber 66 = .ok (.aload_n 0, 1) := by decide +kernel
theorem d_Line_readNumber_67 : decode b_Line_readNumber 67 = .ok (.getfield 9, 3) := by decide +kernel
theorem d_Line_readNumber_70 : decode b_Line_readNumber 70 = .ok (.iload 4, 2) := by decide +kernel
theorem d_Line_readNumber_72 : decode b_Line_readNumber 72 = .ok (.iload 5, 2) := by decide +kernel
theorem d_Line_readNumber_74 : decode b_Line_readNumber 74 = .ok (.invokestatic 109, 3) := by decide +kernel
theorem d_Line_readNumber_77 : decode b_Line_readNumber 77 = .ok (.imul, 1) := by decide +kernel
theorem d_Line_readNumber_78 : decode b_Line_readNumber 78 = .ok (.istore 6, 2) := by decide +kernel
theorem d_Line_readNumber_80 : decode b_Line_readNumber 80 = .ok (.iload 5, 2) := by decide +kernel
theorem d_Line_readNumber_82 : decode b_Line_readNumber 82 = .ok (.iload_n 2, 1) := by decide +kernel
theorem d_Line_readNumber_83 : decode b_Line_readNumber 83 = .ok (.if_icmp .ge (59), 3) := by decide +kernel
theorem d_Line_readNumber_86 : decode b_Line_readNumber 86 = .ok (.aload_n 0, 1) := by decide +kernel
theorem d_Line_readNumber_87 : decode b_Line_readNumber 87 = .ok (.getfield 9, 3) := by decide +kernel
theorem d_Line_readNumber_90 : decode b_Line_readNumber 90 = .ok (.iload 5, 2) := by decide +kernel
theorem d_Line_readNumber_92 : decode b_Line_readNumber 92 = .ok (.iconst 1, 1) := by decide +kernel
theorem d_Line_readNumber_93 : decode b_Line_readNumber 93 = .ok (.iadd, 1) := by decide +kernel
theorem d_Line_readNumber_94 : decode b_Line_readNumber 94 = .ok (.iload_n 2, 1) := by decide +kernel
theorem d_Line_readNumber_95 : decode b_Line_readNumber 95 = .ok (.iconst 2, 1) := by decide +kernel
theorem d_Line_readNumber_96 : decode b_Line_readNumber 96 = .ok (.invokestatic 105, 3) := by decide +kernel
theorem d_Line_readNumber_99 : decode b_Line_readNumber 99 = .ok (.ifCond .ne (6), 3) := by decide +kernel
theorem d_Line_readNumber_102 : decode b_Line_readNumber 102 = .ok (.ldc 73, 2) := by decide +kernel
theorem d_Line_readNumber_104 : decode b_Line_readNumber 104 = .ok (.ireturn, 1) := by decide +kernel
theorem d_Line_readNumber_105 : decode b_Line_readNumber 105 = .ok (.aload_n 0, 1) := by decide +kernel
theorem d_Line_readNumber_106 : decode b_Line_readNumber 106 = .ok (.getfield 9, 3) := by decide +kernel
theorem d_Line_readNumber_109 : decode b_Line_readNumber 109 = .ok (.iload 5, 2) := by decide +kernel
theorem d_Line_readNumber_111 : decode b_Line_readNumber 111 = .ok (.iconst 1, 1) := by decide +kernel
theorem d_Line_readNumber_112 : decode b_Line_readNumber 112 = .ok (.iadd, 1) := by decide +kernel
theorem d_Line_readNumber_113 : decode b_Line_readNumber 113 = .ok (.iload_n 2, 1) := by decide +kernel
theorem d_Line_readNumber_114 : decode b_Line_readNumber 114 = .ok (.invokestatic 109, 3) := by decide +kernel
theorem d_Line_readNumber_117 : decode b_Line_readNumber 117 = .ok (.istore 7, 2) := by decide +kernel
theorem d_Line_readNumber_119 : decode b_Line_readNumber 119 = .ok (.iload 6, 2) := by decide +kernel
theorem d_Line_readNumber_121 : decode b_Line_readNumber 121 = .ok (.iload_n 2, 1) := by decide +kernel
theorem d_Line_readNumber_122 : decode b_Line_readNumber 122 = .ok (.iload 5, 2) := by decide +kernel
theorem d_Line_readNumber_124 : decode b_Line_readNumber 124 = .ok (.isub, 1) := by decide +kernel
theorem d_Line_readNumber_125 : decode b_Line_readNumber 125 = .ok (.iconst 2, 1) := by decide +kernel
theorem d_Line_readNumber_126 : decode b_Line_readNumber 126 = .ok (.if_icmp .ne (11), 3) := by decide +kernel
theorem d_Line_readNumber_129 : decode b_Line_readNumber 129 = .ok (.bipush (10), 2) := by decide +kernel
theorem d_Line_readNumber_131 : decode b_Line_readNumber 131 = .ok (.iload 7, 2) := by decide +kernel
theorem d_Line_readNumber_133 : decode b_Line_readNumber 133 = .ok (.imul, 1) := by decide +kernel
theorem d_Line_readNumber_134 : decode b_Line_readNumber 134 = .ok (.goto (5), 3) := by decide +kernel
theorem d_Line_readNumber_137 : decode b_Line_readNumber 137 = .ok (.iload 7, 2) := by decide +kernel
theorem d_Line_readNumber_139 : decode b_Line_readNumber 139 = .ok (.iadd, 1) := by decide +kernel
theorem d_Line_readNumber_140 : decode b_Line_readNumber 140 = .ok (.istore 6, 2) := by decide +kernel
theorem d_Line_readNumber_142 : decode b_Line_readNumber 142 = .ok (.iload_n 3, 1) := by decide +kernel
theorem d_Line_readNumber_143 : decode b_Line_readNumber 143 = .ok (.ifCond .eq (9), 3) := by decide +kernel
theorem d_Line_readNumber_146 : decode b_Line_readNumber 146 = .ok (.iload 6, 2) := by decide +kernel
theorem d_Line_readNumber_148 : decode b_Line_readNumber 148 = .ok (.ineg, 1) := by decide +kernel
theorem d_Line_readNumber_149 : decode b_Line_readNumber 149 = .ok (.goto (5), 3) := by decide +kernel
theorem d_Line_readNumber_152 : decode b_Line_readNumber 152 = .ok (.iload 6, 2) := by decide +kernel
theorem d_Line_readNumber_154 : decode b_Line_readNumber 154 = .ok (.ireturn, 1) := by decide +kernel
set_option maxHeartbeats 4000000 in
set_option maxRecDepth 100000 in
theorem c_Line_readNumber (l : Launch) (D : va_G) (G : Nat → ClassId) (A : Nat → Prop) (Z : va_W) (h : Nat) (ta : Nat) (t : Nat → Int32) (len : Nat) (ne : Int32) (pn : Int32) (lt : Int32) (sd : Int32) (fc : Int32) (i : Nat) (j : Nat) (hlen : len ≤ 100) (hj : j ≤ len) (hi : i ≤ j) : hq_FI l D G A y_Line_readNumber b_Line_readNumber 8 .int 1 [.ref h, .int (nI i), .int (nI j)] ([hq_o2 h ta (nI len) ne pn lt sd fc, hq_ai ta (G 2) 100 t] ++ Z) (hq_numC t i j) ([hq_o2 h ta (nI len) ne pn lt sd fc, hq_ai ta (G 2) 100 t] ++ Z) := by
  refine hq_bI (by decide) (Nat.le_of_ble_eq_true rfl) (fun _ _ _ => rfl) ?_
  intro p e s m args below meth c Q hx hb hml hts hown hA hK hN hret ls H locs hl hP hD hS
  have hown : s.vm.findClass "HashedLearner$Line" = some m.cls := hown
  have hl : lv_has ls 8 [(0, .ref h), (1, .int (nI i)), (2, .int (nI j))] := hl
  have cut35 : ∀ (st : Nat) (ng : Bool) (ls : Array Slot) (H : Heap) (locs : List Loc), (hq_st t i j = st) → (hq_isN t i j = ng) → (st ≤ j) → lv_has ls 8 [(0, .ref h), (2, .int (nI j)), (3, .int (hq_z ng)), (4, .int (nI st))] → va_P D hq_cl ([hq_o2 h ta (nI len) ne pn lt sd fc, hq_ai ta (G 2) 100 t] ++ Z) H → va_D A ([hq_o2 h ta (nI len) ne pn lt sd fc, hq_ai ta (G 2) 100 t] ++ Z) → va_S A s.heap H locs → W p l e (hq_rm 1 0 0) s m args below meth c H locs 0 0 Q (F0 m 35 ls []) := by
    intro st ng ls H locs hs hg hle hl hP hD hS
    refine lv_aload_n hx hb d_Line_readNumber_35 rfl (lv_at hl 0 rfl) ?_
    refine lv_bipush (v := 46) hx hb d_Line_readNumber_36 (by decide) ?_
    refine lv_iload hx hb d_Line_readNumber_38 (lv_at hl 3 rfl) ?_
    refine lv_iload_n hx hb d_Line_readNumber_40 rfl (lv_at hl 1 rfl) ?_
    have hPc : va_P D hq_cl ([hq_o2 h ta (nI len) ne pn lt sd fc, hq_ai ta (G 2) 100 t] ++ Z) H := hP
    have hDc : va_D A ([hq_o2 h ta (nI len) ne pn lt sd fc, hq_ai ta (G 2) 100 t] ++ Z) := hD
    refine hq_iF (hq_rV (As := [.int 46, .int (nI st), .int (nI j)]) (rest := []) hx hb hml hown hts (c_Line_find l D G A Z h ta t len ne pn lt sd fc 46 st j (by first | assumption | omega) (by first | assumption | omega)) yy_Line_find lk_Line_39 hA hK hN hS hPc hDc 0 2 rfl rfl rfl hl.1 rfl (Nat.le_of_ble_eq_true rfl) d_Line_readNumber_41 ⟨by decide, by decide⟩ ⟨by decide, by decide⟩) hS (fun H locs hP hD hS => ?_)
    have hP : va_P D hq_cl ([hq_o2 h ta (nI len) ne pn lt sd fc, hq_ai ta (G 2) 100 t] ++ Z) H := hP
    have hD : va_D A ([hq_o2 h ta (nI len) ne pn lt sd fc, hq_ai ta (G 2) 100 t] ++ Z) := hD
    have hp := hq_fnd_le t 46 (j - st) st
    refine lv_istore (nL := 8) (lv' := [(5, .int (nI (hq_fnd t 46 st (j - st)))), (0, .ref h), (2, .int (nI j)), (3, .int (hq_z ng)), (4, .int (nI st))]) hx hb d_Line_readNumber_44 hl (by decide) rfl (fun ls hl => ?_)
    refine lv_aload_n hx hb d_Line_readNumber_46 rfl (lv_at hl 1 rfl) ?_
    refine va_get (D := D) (ci := 2) (v := .ref ta) (C := R_Line) (T := F_Line) (N := 7) hx hb hts uw_Line hown hK hP 0 rfl rfl 0 (by decide) (hts _ fl_Line_9) (fun _ h9 => h9) rfl d_Line_readNumber_47 ?_
    refine lv_iload hx hb d_Line_readNumber_50 (lv_at hl 4 rfl) ?_
    refine lv_iload hx hb d_Line_readNumber_52 (lv_at hl 0 rfl) ?_
    refine lv_iconst (v := nI 3) hx hb d_Line_readNumber_54 (by decide) ?_
    have hPc : va_P D hq_cl ([hq_ai ta (G 2) 100 t] ++ ([hq_o2 h ta (nI len) ne pn lt sd fc] ++ Z)) H := va_P.part (cx := [hq_ai ta (G 2) 100 t, hq_o2 h ta (nI len) ne pn lt sd fc]) hP [1, 0] rfl
    have hDc : va_D A ([hq_ai ta (G 2) 100 t] ++ ([hq_o2 h ta (nI len) ne pn lt sd fc] ++ Z)) := va_D.part (cx := [hq_ai ta (G 2) 100 t, hq_o2 h ta (nI len) ne pn lt sd fc]) hD [1, 0] (by decide) rfl
    refine hq_iF (hq_rSN (As := [.ref ta, .int (nI st), .int (nI (hq_fnd t 46 st (j - st))), .int (nI 3)]) (rest := []) hx hb hml hown hts (c_H_areDigits l D G A ([hq_o2 h ta (nI len) ne pn lt sd fc] ++ Z) ta 100 t st (hq_fnd t 46 st (j - st)) 3 (by first | assumption | omega) (by first | assumption | omega) (by first | assumption | omega) (by first | assumption | omega)) yy_H_areDigits lk_Line_105 hA hK hN hS hPc hDc rfl hl.1 rfl (Nat.le_of_ble_eq_true rfl) d_Line_readNumber_55 ⟨by decide, by decide⟩ ⟨by decide, by decide⟩) hS (fun H locs hP hD hS => ?_)
    have hP : va_P D hq_cl ([hq_ai ta (G 2) 100 t, hq_o2 h ta (nI len) ne pn lt sd fc] ++ Z) H := hP
    have hD : va_D A ([hq_ai ta (G 2) 100 t, hq_o2 h ta (nI len) ne pn lt sd fc] ++ Z) := hD
    refine lv_if_ne (tgt := 64) hx hb d_Line_readNumber_58 rfl (fun c58 => ?_) (fun c58 => ?_)
    · -- 58 taken
      have c58 : (hq_areD t st (hq_fnd t 46 st (j - st)) 3) = true := hq_zn.mp c58
      refine lv_bipush (v := 100) hx hb d_Line_readNumber_64 (by decide) ?_
      refine lv_aload_n hx hb d_Line_readNumber_66 rfl (lv_at hl 1 rfl) ?_
      refine va_get (D := D) (ci := 2) (v := .ref ta) (C := R_Line) (T := F_Line) (N := 7) hx hb hts uw_Line hown hK hP 1 rfl rfl 0 (by decide) (hts _ fl_Line_9) (fun _ h9 => h9) rfl d_Line_readNumber_67 ?_
      refine lv_iload hx hb d_Line_readNumber_70 (lv_at hl 4 rfl) ?_
      refine lv_iload hx hb d_Line_readNumber_72 (lv_at hl 0 rfl) ?_
      have hPc : va_P D hq_cl ([hq_ai ta (G 2) 100 t] ++ ([hq_o2 h ta (nI len) ne pn lt sd fc] ++ Z)) H := hP
      have hDc : va_D A ([hq_ai ta (G 2) 100 t] ++ ([hq_o2 h ta (nI len) ne pn lt sd fc] ++ Z)) := hD
      refine hq_iF (hq_rSN (As := [.ref ta, .int (nI st), .int (nI (hq_fnd t 46 st (j - st)))]) (rest := [.int 100]) hx hb hml hown hts (c_H_digitsToInt l D G A ([hq_o2 h ta (nI len) ne pn lt sd fc] ++ Z) ta 100 t st (hq_fnd t 46 st (j - st)) (by first | assumption | omega) (by first | assumption | omega) (by first | assumption | omega)) yy_H_digitsToInt lk_Line_109 hA hK hN hS hPc hDc rfl hl.1 rfl (Nat.le_of_ble_eq_true rfl) d_Line_readNumber_74 ⟨by decide, by decide⟩ ⟨by decide, by decide⟩) hS (fun H locs hP hD hS => ?_)
      have hP : va_P D hq_cl ([hq_ai ta (G 2) 100 t, hq_o2 h ta (nI len) ne pn lt sd fc] ++ Z) H := hP
      have hD : va_D A ([hq_ai ta (G 2) 100 t, hq_o2 h ta (nI len) ne pn lt sd fc] ++ Z) := hD
      refine lv_imul hx hb d_Line_readNumber_77 ?_
      refine lv_istore (nL := 8) (lv' := [(6, .int (100 * (hq_dec t st ((hq_fnd t 46 st (j - st)) - st) 0))), (5, .int (nI (hq_fnd t 46 st (j - st)))), (0, .ref h), (2, .int (nI j)), (3, .int (hq_z ng)), (4, .int (nI st))]) hx hb d_Line_readNumber_78 hl (by decide) rfl (fun ls hl => ?_)
      refine lv_iload hx hb d_Line_readNumber_80 (lv_at hl 1 rfl) ?_
      refine lv_iload_n hx hb d_Line_readNumber_82 rfl (lv_at hl 3 rfl) ?_
      refine lv_icmp_ge (tgt := 142) hx hb d_Line_readNumber_83 rfl (fun c83 => ?_) (fun c83 => ?_)
      · -- 83 taken
        have c83 : j ≤ (hq_fnd t 46 st (j - st)) := (nI_leI (a := j) (b := hq_fnd t 46 st (j - st)) (by omega) (by omega)).mp c83
        refine lv_iload_n hx hb d_Line_readNumber_142 rfl (lv_at hl 4 rfl) ?_
        refine lv_if_eq (tgt := 152) hx hb d_Line_readNumber_143 rfl (fun c143 => ?_) (fun c143 => ?_)
        · -- 143 taken
          have c143 : ¬ ng = true := by rw [hq_z0.mp c143]; decide
          refine lv_iload hx hb d_Line_readNumber_152 (lv_at hl 0 rfl) ?_
          have hP := va_P.part (cx := [hq_o2 h ta (nI len) ne pn lt sd fc, hq_ai ta (G 2) 100 t]) hP [1, 0] rfl
          have hD := va_D.part (cx := [hq_o2 h ta (nI len) ne pn lt sd fc, hq_ai ta (G 2) 100 t]) hD [1, 0] (by decide) rfl
          exact hret (100 * (hq_dec t st ((hq_fnd t 46 st (j - st)) - st) 0)) () H locs 154 ls d_Line_readNumber_154 (by rw [hq_numC, hq_num, hs, hg, hq_numB, if_pos c58, if_pos c83, if_neg c143] <;> rfl) hP hD hS
        · -- 143 not taken
          have c143 : ng = true := hq_zn.mp c143
          refine lv_iload hx hb d_Line_readNumber_146 (lv_at hl 0 rfl) ?_
          refine lv_ineg hx hb d_Line_readNumber_148 ?_
          refine lv_goto (tgt := 154) hx hb d_Line_readNumber_149 rfl ?_
          have hP := va_P.part (cx := [hq_o2 h ta (nI len) ne pn lt sd fc, hq_ai ta (G 2) 100 t]) hP [1, 0] rfl
          have hD := va_D.part (cx := [hq_o2 h ta (nI len) ne pn lt sd fc, hq_ai ta (G 2) 100 t]) hD [1, 0] (by decide) rfl
          exact hret (-(100 * (hq_dec t st ((hq_fnd t 46 st (j - st)) - st) 0))) () H locs 154 ls d_Line_readNumber_154 (by rw [hq_numC, hq_num, hs, hg, hq_numB, if_pos c58, if_pos c83, if_pos c143] <;> rfl) hP hD hS
      · -- 83 not taken
        have c83 : ¬ j ≤ (hq_fnd t 46 st (j - st)) := fun h => c83 ((nI_leI (a := j) (b := hq_fnd t 46 st (j - st)) (by omega) (by omega)).mpr h)
        refine lv_aload_n hx hb d_Line_readNumber_86 rfl (lv_at hl 2 rfl) ?_
        refine va_get (D := D) (ci := 2) (v := .ref ta) (C := R_Line) (T := F_Line) (N := 7) hx hb hts uw_Line hown hK hP 1 rfl rfl 0 (by decide) (hts _ fl_Line_9) (fun _ h9 => h9) rfl d_Line_readNumber_87 ?_
        refine lv_iload hx hb d_Line_readNumber_90 (lv_at hl 1 rfl) ?_
        refine lv_iconst (v := 1) hx hb d_Line_readNumber_92 (by decide) ?_
        refine lv_iadd hx hb d_Line_readNumber_93 ?_
        refine hq_topi (x' := nI ((hq_fnd t 46 st (j - st)) + 1)) (nI_add (hq_fnd t 46 st (j - st)) 1) ?_
        refine lv_iload_n hx hb d_Line_readNumber_94 rfl (lv_at hl 3 rfl) ?_
        refine lv_iconst (v := nI 2) hx hb d_Line_readNumber_95 (by decide) ?_
        have hPc : va_P D hq_cl ([hq_ai ta (G 2) 100 t] ++ ([hq_o2 h ta (nI len) ne pn lt sd fc] ++ Z)) H := hP
        have hDc : va_D A ([hq_ai ta (G 2) 100 t] ++ ([hq_o2 h ta (nI len) ne pn lt sd fc] ++ Z)) := hD
        refine hq_iF (hq_rSN (As := [.ref ta, .int (nI ((hq_fnd t 46 st (j - st)) + 1)), .int (nI j), .int (nI 2)]) (rest := []) hx hb hml hown hts (c_H_areDigits l D G A ([hq_o2 h ta (nI len) ne pn lt sd fc] ++ Z) ta 100 t ((hq_fnd t 46 st (j - st)) + 1) j 2 (by first | assumption | omega) (by first | assumption | omega) (by first | assumption | omega) (by first | assumption | omega)) yy_H_areDigits lk_Line_105 hA hK hN hS hPc hDc rfl hl.1 rfl (Nat.le_of_ble_eq_true rfl) d_Line_readNumber_96 ⟨by decide, by decide⟩ ⟨by decide, by decide⟩) hS (fun H locs hP hD hS => ?_)
        have hP : va_P D hq_cl ([hq_ai ta (G 2) 100 t, hq_o2 h ta (nI len) ne pn lt sd fc] ++ Z) H := hP
        have hD : va_D A ([hq_ai ta (G 2) 100 t, hq_o2 h ta (nI len) ne pn lt sd fc] ++ Z) := hD
        refine lv_if_ne (tgt := 105) hx hb d_Line_readNumber_99 rfl (fun c99 => ?_) (fun c99 => ?_)
        · -- 99 taken
          have c99 : (hq_areD t ((hq_fnd t 46 st (j - st)) + 1) j 2) = true := hq_zn.mp c99
          refine lv_aload_n hx hb d_Line_readNumber_105 rfl (lv_at hl 2 rfl) ?_
          refine va_get (D := D) (ci := 2) (v := .ref ta) (C := R_Line) (T := F_Line) (N := 7) hx hb hts uw_Line hown hK hP 1 rfl rfl 0 (by decide) (hts _ fl_Line_9) (fun _ h9 => h9) rfl d_Line_readNumber_106 ?_
          refine lv_iload hx hb d_Line_readNumber_109 (lv_at hl 1 rfl) ?_
          refine lv_iconst (v := 1) hx hb d_Line_readNumber_111 (by decide) ?_
          refine lv_iadd hx hb d_Line_readNumber_112 ?_
          refine hq_topi (x' := nI ((hq_fnd t 46 st (j - st)) + 1)) (nI_add (hq_fnd t 46 st (j - st)) 1) ?_
          refine lv_iload_n hx hb d_Line_readNumber_113 rfl (lv_at hl 3 rfl) ?_
          have hPc : va_P D hq_cl ([hq_ai ta (G 2) 100 t] ++ ([hq_o2 h ta (nI len) ne pn lt sd fc] ++ Z)) H := hP
          have hDc : va_D A ([hq_ai ta (G 2) 100 t] ++ ([hq_o2 h ta (nI len) ne pn lt sd fc] ++ Z)) := hD
          refine hq_iF (hq_rSN (As := [.ref ta, .int (nI ((hq_fnd t 46 st (j - st)) + 1)), .int (nI j)]) (rest := []) hx hb hml hown hts (c_H_digitsToInt l D G A ([hq_o2 h ta (nI len) ne pn lt sd fc] ++ Z) ta 100 t ((hq_fnd t 46 st (j - st)) + 1) j (by first | assumption | omega) (by first | assumption | omega) (by first | assumption | omega)) yy_H_digitsToInt lk_Line_109 hA hK hN hS hPc hDc rfl hl.1 rfl (Nat.le_of_ble_eq_true rfl) d_Line_readNumber_114 ⟨by decide, by decide⟩ ⟨by decide, by decide⟩) hS (fun H locs hP hD hS => ?_)
          have hP : va_P D hq_cl ([hq_ai ta (G 2) 100 t, hq_o2 h ta (nI len) ne pn lt sd fc] ++ Z) H := hP
          have hD : va_D A ([hq_ai ta (G 2) 100 t, hq_o2 h ta (nI len) ne pn lt sd fc] ++ Z) := hD
          refine lv_istore (nL := 8) (lv' := [(7, .int (hq_dec t ((hq_fnd t 46 st (j - st)) + 1) (j - ((hq_fnd t 46 st (j - st)) + 1)) 0)), (6, .int (100 * (hq_dec t st ((hq_fnd t 46 st (j - st)) - st) 0))), (5, .int (nI (hq_fnd t 46 st (j - st)))), (0, .ref h), (2, .int (nI j)), (3, .int (hq_z ng)), (4, .int (nI st))]) hx hb d_Line_readNumber_117 hl (by decide) rfl (fun ls hl => ?_)
          refine lv_iload hx hb d_Line_readNumber_119 (lv_at hl 1 rfl) ?_
          refine lv_iload_n hx hb d_Line_readNumber_121 rfl (lv_at hl 4 rfl) ?_
          refine lv_iload hx hb d_Line_readNumber_122 (lv_at hl 2 rfl) ?_
          refine lv_isub hx hb d_Line_readNumber_124 ?_
          refine hq_topi (x' := nI (j - hq_fnd t 46 st (j - st))) (pk_sub (by omega)) ?_
          refine lv_iconst (v := 2) hx hb d_Line_readNumber_125 (by decide) ?_
          refine lv_icmp_ne (tgt := 137) hx hb d_Line_readNumber_126 rfl (fun c126 => ?_) (fun c126 => ?_)
          · -- 126 taken
            have c126 : ¬ (j - hq_fnd t 46 st (j - st)) = 2 := fun h => c126 ((nI_eq (a := j - hq_fnd t 46 st (j - st)) (b := 2) (by omega) (by omega)).mpr h)
            refine lv_iload hx hb d_Line_readNumber_137 (lv_at hl 0 rfl) ?_
            refine lv_iadd hx hb d_Line_readNumber_139 ?_
            refine lv_istore (nL := 8) (lv' := [(6, .int ((100 * (hq_dec t st ((hq_fnd t 46 st (j - st)) - st) 0)) + (hq_dec t ((hq_fnd t 46 st (j - st)) + 1) (j - ((hq_fnd t 46 st (j - st)) + 1)) 0))), (7, .int (hq_dec t ((hq_fnd t 46 st (j - st)) + 1) (j - ((hq_fnd t 46 st (j - st)) + 1)) 0)), (5, .int (nI (hq_fnd t 46 st (j - st)))), (0, .ref h), (2, .int (nI j)), (3, .int (hq_z ng)), (4, .int (nI st))]) hx hb d_Line_readNumber_140 hl (by decide) rfl (fun ls hl => ?_)
            refine lv_iload_n hx hb d_Line_readNumber_142 rfl (lv_at hl 5 rfl) ?_
            refine lv_if_eq (tgt := 152) hx hb d_Line_readNumber_143 rfl (fun c143 => ?_) (fun c143 => ?_)
            · -- 143 taken
              have c143 : ¬ ng = true := by rw [hq_z0.mp c143]; decide
              refine lv_iload hx hb d_Line_readNumber_152 (lv_at hl 0 rfl) ?_
              have hP := va_P.part (cx := [hq_o2 h ta (nI len) ne pn lt sd fc, hq_ai ta (G 2) 100 t]) hP [1, 0] rfl
              have hD := va_D.part (cx := [hq_o2 h ta (nI len) ne pn lt sd fc, hq_ai ta (G 2) 100 t]) hD [1, 0] (by decide) rfl
              exact hret ((100 * (hq_dec t st ((hq_fnd t 46 st (j - st)) - st) 0)) + (hq_dec t ((hq_fnd t 46 st (j - st)) + 1) (j - ((hq_fnd t 46 st (j - st)) + 1)) 0)) () H locs 154 ls d_Line_readNumber_154 (by rw [hq_numC, hq_num, hs, hg, hq_numB, if_pos c58, if_neg c83, if_pos c99, if_neg c126, if_neg c143] <;> rfl) hP hD hS
            · -- 143 not taken
              have c143 : ng = true := hq_zn.mp c143
              refine lv_iload hx hb d_Line_readNumber_146 (lv_at hl 0 rfl) ?_
              refine lv_ineg hx hb d_Line_readNumber_148 ?_
              refine lv_goto (tgt := 154) hx hb d_Line_readNumber_149 rfl ?_
              have hP := va_P.part (cx := [hq_o2 h ta (nI len) ne pn lt sd fc, hq_ai ta (G 2) 100 t]) hP [1, 0] rfl
              have hD := va_D.part (cx := [hq_o2 h ta (nI len) ne pn lt sd fc, hq_ai ta (G 2) 100 t]) hD [1, 0] (by decide) rfl
              exact hret (-((100 * (hq_dec t st ((hq_fnd t 46 st (j - st)) - st) 0)) + (hq_dec t ((hq_fnd t 46 st (j - st)) + 1) (j - ((hq_fnd t 46 st (j - st)) + 1)) 0))) () H locs 154 ls d_Line_readNumber_154 (by rw [hq_numC, hq_num, hs, hg, hq_numB, if_pos c58, if_neg c83, if_pos c99, if_neg c126, if_pos c143] <;> rfl) hP hD hS
          · -- 126 not taken
            have c126 : (j - hq_fnd t 46 st (j - st)) = 2 := (nI_eq (a := j - hq_fnd t 46 st (j - st)) (b := 2) (by omega) (by omega)).mp c126
            refine lv_bipush (v := 10) hx hb d_Line_readNumber_129 (by decide) ?_
            refine lv_iload hx hb d_Line_readNumber_131 (lv_at hl 0 rfl) ?_
            refine lv_imul hx hb d_Line_readNumber_133 ?_
            refine lv_goto (tgt := 139) hx hb d_Line_readNumber_134 rfl ?_
            refine lv_iadd hx hb d_Line_readNumber_139 ?_
            refine lv_istore (nL := 8) (lv' := [(6, .int ((100 * (hq_dec t st ((hq_fnd t 46 st (j - st)) - st) 0)) + (10 * (hq_dec t ((hq_fnd t 46 st (j - st)) + 1) (j - ((hq_fnd t 46 st (j - st)) + 1)) 0)))), (7, .int (hq_dec t ((hq_fnd t 46 st (j - st)) + 1) (j - ((hq_fnd t 46 st (j - st)) + 1)) 0)), (5, .int (nI (hq_fnd t 46 st (j - st)))), (0, .ref h), (2, .int (nI j)), (3, .int (hq_z ng)), (4, .int (nI st))]) hx hb d_Line_readNumber_140 hl (by decide) rfl (fun ls hl => ?_)
            refine lv_iload_n hx hb d_Line_readNumber_142 rfl (lv_at hl 5 rfl) ?_
            refine lv_if_eq (tgt := 152) hx hb d_Line_readNumber_143 rfl (fun c143 => ?_) (fun c143 => ?_)
            · -- 143 taken
              have c143 : ¬ ng = true := by rw [hq_z0.mp c143]; decide
              refine lv_iload hx hb d_Line_readNumber_152 (lv_at hl 0 rfl) ?_
              have hP := va_P.part (cx := [hq_o2 h ta (nI len) ne pn lt sd fc, hq_ai ta (G 2) 100 t]) hP [1, 0] rfl
              have hD := va_D.part (cx := [hq_o2 h ta (nI len) ne pn lt sd fc, hq_ai ta (G 2) 100 t]) hD [1, 0] (by decide) rfl
              exact hret ((100 * (hq_dec t st ((hq_fnd t 46 st (j - st)) - st) 0)) + (10 * (hq_dec t ((hq_fnd t 46 st (j - st)) + 1) (j - ((hq_fnd t 46 st (j - st)) + 1)) 0))) () H locs 154 ls d_Line_readNumber_154 (by rw [hq_numC, hq_num, hs, hg, hq_numB, if_pos c58, if_neg c83, if_pos c99, if_pos c126, if_neg c143] <;> rfl) hP hD hS
            · -- 143 not taken
              have c143 : ng = true := hq_zn.mp c143
              refine lv_iload hx hb d_Line_readNumber_146 (lv_at hl 0 rfl) ?_
              refine lv_ineg hx hb d_Line_readNumber_148 ?_
              refine lv_goto (tgt := 154) hx hb d_Line_readNumber_149 rfl ?_
              have hP := va_P.part (cx := [hq_o2 h ta (nI len) ne pn lt sd fc, hq_ai ta (G 2) 100 t]) hP [1, 0] rfl
              have hD := va_D.part (cx := [hq_o2 h ta (nI len) ne pn lt sd fc, hq_ai ta (G 2) 100 t]) hD [1, 0] (by decide) rfl
              exact hret (-((100 * (hq_dec t st ((hq_fnd t 46 st (j - st)) - st) 0)) + (10 * (hq_dec t ((hq_fnd t 46 st (j - st)) + 1) (j - ((hq_fnd t 46 st (j - st)) + 1)) 0)))) () H locs 154 ls d_Line_readNumber_154 (by rw [hq_numC, hq_num, hs, hg, hq_numB, if_pos c58, if_neg c83, if_pos c99, if_pos c126, if_pos c143] <;> rfl) hP hD hS
        · -- 99 not taken
          have c99 : ¬ (hq_areD t ((hq_fnd t 46 st (j - st)) + 1) j 2) = true := by rw [hq_z0.mp c99]; decide
          refine lv_ldc (v := (-2147483648)) hx hb hown (hts _ ki_Line_73) d_Line_readNumber_102 ?_
          have hP := va_P.part (cx := [hq_o2 h ta (nI len) ne pn lt sd fc, hq_ai ta (G 2) 100 t]) hP [1, 0] rfl
          have hD := va_D.part (cx := [hq_o2 h ta (nI len) ne pn lt sd fc, hq_ai ta (G 2) 100 t]) hD [1, 0] (by decide) rfl
          exact hret (-2147483648) () H locs 104 ls d_Line_readNumber_104 (by rw [hq_numC, hq_num, hs, hg, hq_numB, if_pos c58, if_neg c83, if_neg c99] <;> rfl) hP hD hS
    · -- 58 not taken
      have c58 : ¬ (hq_areD t st (hq_fnd t 46 st (j - st)) 3) = true := by rw [hq_z0.mp c58]; decide
      refine lv_ldc (v := (-2147483648)) hx hb hown (hts _ ki_Line_73) d_Line_readNumber_61 ?_
      have hP := va_P.part (cx := [hq_o2 h ta (nI len) ne pn lt sd fc, hq_ai ta (G 2) 100 t]) hP [1, 0] rfl
      have hD := va_D.part (cx := [hq_o2 h ta (nI len) ne pn lt sd fc, hq_ai ta (G 2) 100 t]) hD [1, 0] (by decide) rfl
      exact hret (-2147483648) () H locs 63 ls d_Line_readNumber_63 (by rw [hq_numC, hq_num, hs, hg, hq_numB, if_neg c58] <;> rfl) hP hD hS
  refine lv_iload_n hx hb d_Line_readNumber_0 rfl (lv_at hl 1 rfl) ?_
  refine lv_iload_n hx hb d_Line_readNumber_1 rfl (lv_at hl 2 rfl) ?_
  refine lv_icmp_ge (tgt := 20) hx hb d_Line_readNumber_2 rfl (fun c2 => ?_) (fun c2 => ?_)
  · -- 2 taken
    have c2 : j ≤ i := (nI_leI (a := j) (b := i) (by omega) (by omega)).mp c2
    refine lv_iconst (v := 0) hx hb d_Line_readNumber_20 (by decide) ?_
    refine lv_istore_n (nL := 8) (lv' := [(3, .int 0), (0, .ref h), (1, .int (nI i)), (2, .int (nI j))]) hx hb d_Line_readNumber_21 rfl hl (by decide) rfl (fun ls hl => ?_)
    refine lv_iload_n hx hb d_Line_readNumber_22 rfl (lv_at hl 0 rfl) ?_
    refine lv_if_eq (tgt := 32) hx hb d_Line_readNumber_23 rfl (fun c23 => ?_) (fun c23 => ?_)
    · skip
      refine lv_iload_n hx hb d_Line_readNumber_32 rfl (lv_at hl 2 rfl) ?_
      refine lv_istore (nL := 8) (lv' := [(4, .int (nI i)), (3, .int 0), (0, .ref h), (1, .int (nI i)), (2, .int (nI j))]) hx hb d_Line_readNumber_33 hl (by decide) rfl (fun ls hl => ?_)
      exact cut35 i false ls H locs (by rw [hq_st, if_neg (by omega)]) (by rw [hq_isN, if_neg (by omega)]) (by first | assumption | omega) (lv_sub hl [2, 4, 1, 0] rfl) hP hD hS
    · exact absurd (by decide) c23
  · -- 2 not taken
    have c2 : ¬ j ≤ i := fun h => c2 ((nI_leI (a := j) (b := i) (by omega) (by omega)).mpr h)
    refine lv_aload_n hx hb d_Line_readNumber_5 rfl (lv_at hl 0 rfl) ?_
    refine va_get (D := D) (ci := 2) (v := .ref ta) (C := R_Line) (T := F_Line) (N := 7) hx hb hts uw_Line hown hK hP 0 rfl rfl 0 (by decide) (hts _ fl_Line_9) (fun _ h9 => h9) rfl d_Line_readNumber_6 ?_
    refine lv_iload_n hx hb d_Line_readNumber_9 rfl (lv_at hl 1 rfl) ?_
    refine hq_cald (j := i) hx hb hK hP 1 rfl (by omega) (by omega) d_Line_readNumber_10 ?_
    refine lv_bipush (v := 45) hx hb d_Line_readNumber_11 (by decide) ?_
    refine lv_icmp_ne (tgt := 20) hx hb d_Line_readNumber_13 rfl (fun c13 => ?_) (fun c13 => ?_)
    · -- 13 taken
      have c13 : ¬ (t i) = 45 := c13
      refine lv_iconst (v := 0) hx hb d_Line_readNumber_20 (by decide) ?_
      refine lv_istore_n (nL := 8) (lv' := [(3, .int 0), (0, .ref h), (1, .int (nI i)), (2, .int (nI j))]) hx hb d_Line_readNumber_21 rfl hl (by decide) rfl (fun ls hl => ?_)
      refine lv_iload_n hx hb d_Line_readNumber_22 rfl (lv_at hl 0 rfl) ?_
      refine lv_if_eq (tgt := 32) hx hb d_Line_readNumber_23 rfl (fun c23 => ?_) (fun c23 => ?_)
      · skip
        refine lv_iload_n hx hb d_Line_readNumber_32 rfl (lv_at hl 2 rfl) ?_
        refine lv_istore (nL := 8) (lv' := [(4, .int (nI i)), (3, .int 0), (0, .ref h), (1, .int (nI i)), (2, .int (nI j))]) hx hb d_Line_readNumber_33 hl (by decide) rfl (fun ls hl => ?_)
        exact cut35 i false ls H locs (by rw [hq_st, if_pos (by omega), if_neg c13]) (by rw [hq_isN, if_pos (by omega), if_neg c13]) (by first | assumption | omega) (lv_sub hl [2, 4, 1, 0] rfl) hP hD hS
      · exact absurd (by decide) c23
    · -- 13 not taken
      have c13 : (t i) = 45 := c13
      refine lv_iconst (v := 1) hx hb d_Line_readNumber_16 (by decide) ?_
      refine lv_goto (tgt := 21) hx hb d_Line_readNumber_17 rfl ?_
      refine lv_istore_n (nL := 8) (lv' := [(3, .int 1), (0, .ref h), (1, .int (nI i)), (2, .int (nI j))]) hx hb d_Line_readNumber_21 rfl hl (by decide) rfl (fun ls hl => ?_)
      refine lv_iload_n hx hb d_Line_readNumber_22 rfl (lv_at hl 0 rfl) ?_
      refine lv_if_eq (tgt := 32) hx hb d_Line_readNumber_23 rfl (fun c23 => ?_) (fun c23 => ?_)
      · exact absurd c23 (by decide)
      · skip
        refine lv_iload_n hx hb d_Line_readNumber_26 rfl (lv_at hl 2 rfl) ?_
        refine lv_iconst (v := 1) hx hb d_Line_readNumber_27 (by decide) ?_
        refine lv_iadd hx hb d_Line_readNumber_28 ?_
        refine hq_topi (x' := nI (i + 1)) (nI_add i 1) ?_
        refine lv_goto (tgt := 33) hx hb d_Line_readNumber_29 rfl ?_
        refine lv_istore (nL := 8) (lv' := [(4, .int (nI (i + 1))), (3, .int 1), (0, .ref h), (1, .int (nI i)), (2, .int (nI j))]) hx hb d_Line_readNumber_33 hl (by decide) rfl (fun ls hl => ?_)
        exact cut35 (i + 1) true ls H locs (by rw [hq_st, if_pos (by omega), if_pos c13]) (by rw [hq_isN, if_pos (by omega), if_pos c13]) (by first | assumption | omega) (lv_sub hl [2, 4, 1, 0] rfl) hP hD hS
theorem d_Line_readPart_0 : decode b_Line_readPart 0 = .ok (.aload_n 0, 1) := by decide +kernel
theorem d_Line_readPart_1 : decode b_Line_readPart 1 = .ok (.aload_n 0, 1) := by decide +kernel
theorem d_Line_readPart_2 : decode b_Line_readPart 2 = .ok (.bipush (58), 2) := by decide +kernel
theorem d_Line_readPart_4 : decode b_Line_readPart 4 = .ok (.iload_n 1, 1) := by decide +kernel
theorem d_Line_readPart_5 : decode b_Line_readPart 5 = .ok (.iload_n 2, 1) := by decide +kernel
theorem d_Line_readPart_6 : decode b_Line_readPart 6 = .ok (.invokevirtual 39, 3) := by decide +kernel
theorem d_Line_readPart_9 : decode b_Line_readPart 9 = .ok (.putfield 19, 3) := by decide +kernel
theorem d_Line_readPart_12 : decode b_Line_readPart 12 = .ok (.aload_n 0, 1) := by decide +kernel
theorem d_Line_readPart_13 : decode b_Line_readPart 13 = .ok (.aload_n 0, 1) := by decide +kernel
theorem d_Line_readPart_14 : decode b_Line_readPart 14 = .ok (.getfield 19, 3) := by decide +kernel
theorem d_Line_readPart_17 : decode b_Line_readPart 17 = .ok (.iload_n 2, 1) := by decide +kernel
theorem d_Line_readPart_18 : decode b_Line_readPart 18 = .ok (.if_icmp .ge (17), 3) := by decide +kernel
theorem d_Line_readPart_21 : decode b_Line_readPart 21 = .ok (.aload_n 0, 1) := by decide +kernel
theorem d_Line_readPart_22 : decode b_Line_readPart 22 = .ok (.aload_n 0, 1) := by decide +kernel
theorem d_Line_readPart_23 : decode b_Line_readPart 23 = .ok (.getfield 19, 3) := by decide +kernel
theorem d_Line_readPart_26 : decode b_Line_readPart 26 = .ok (.iconst 1, 1) := by decide +kernel
theorem d_Line_readPart_27 : decode b_Line_readPart 27 = .ok (.iadd, 1) := by decide +kernel
theorem d_Line_readPart_28 : decode b_Line_readPart 28 = .ok (.iload_n 2, 1) := by decide +kernel
theorem d_Line_readPart_29 : decode b_Line_readPart 29 = .ok (.invokevirtual 70, 3) := by decide +kernel
theorem d_Line_readPart_32 : decode b_Line_readPart 32 = .ok (.goto (5), 3) := by decide +kernel
theorem d_Line_readPart_35 : decode b_Line_readPart 35 = .ok (.bipush (100), 2) := by decide +kernel
theorem d_Line_readPart_37 : decode b_Line_readPart 37 = .ok (.putfield 22, 3) := by decide +kernel
theorem d_Line_readPart_40 : decode b_Line_readPart 40 = .ok (.aload_n 0, 1) := by decide +kernel
theorem d_Line_readPart_41 : decode b_Line_readPart 41 = .ok (.getfield 19, 3) := by decide +kernel
theorem d_Line_readPart_44 : decode b_Line_readPart 44 = .ok (.iload_n 1, 1) := by decide +kernel
theorem d_Line_readPart_45 : decode b_Line_readPart 45 = .ok (.if_icmp .le (16), 3) := by decide +kernel
theorem d_Line_readPart_48 : decode b_Line_readPart 48 = .ok (.aload_n 0, 1) := by decide +kernel
theorem d_Line_readPart_49 : decode b_Line_readPart 49 = .ok (.getfield 22, 3) := by decide +kernel
theorem d_Line_readPart_52 : decode b_Line_readPart 52 = .ok (.ldc 73, 2) := by decide +kernel
theorem d_Line_readPart_54 : decode b_Line_readPart 54 = .ok (.if_icmp .eq (7), 3) := by decide +kernel
theorem d_Line_readPart_57 : decode b_Line_readPart 57 = .ok (.iconst 1, 1) := by decide +kernel
theorem d_Line_readPart_58 : decode b_Line_readPart 58 = .ok (.goto (4), 3) := by decide +kernel
theorem d_Line_readPart_61 : decode b_Line_readPart 61 = .ok (.iconst 0, 1) := by decide +kernel
theorem d_Line_readPart_62 : decode b_Line_readPart 62 = .ok (.ireturn, 1) := by decide +kernel
def f_Line_readPart (t : Nat → Int32) (i : Nat) (j : Nat) : Bool := if j ≤ (hq_fnd t 58 i (j - i)) then if (hq_fnd t 58 i (j - i)) ≤ i then false else true else if (hq_fnd t 58 i (j - i)) ≤ i then false else if (hq_numC t ((hq_fnd t 58 i (j - i)) + 1) j) = (-2147483648) then false else true
def f_Line_readPart_o2 (t : Nat → Int32) (i : Nat) (j : Nat) : Int32 := if j ≤ (hq_fnd t 58 i (j - i)) then 100 else hq_numC t ((hq_fnd t 58 i (j - i)) + 1) j
set_option maxHeartbeats 4000000 in
set_option maxRecDepth 100000 in
theorem c_Line_readPart (l : Launch) (D : va_G) (G : Nat → ClassId) (A : Nat → Prop) (Z : va_W) (h : Nat) (ta : Nat) (t : Nat → Int32) (len : Nat) (ne : Int32) (pn : Int32) (lt : Int32) (sd : Int32) (fc : Int32) (i : Nat) (j : Nat) (hlen : len ≤ 100) (hj : j ≤ len) (hi : i ≤ j) : hq_FI l D G A y_Line_readPart b_Line_readPart 3 .boolean 2 [.ref h, .int (nI i), .int (nI j)] ([hq_o2 h ta (nI len) ne pn lt sd fc, hq_ai ta (G 2) 100 t] ++ Z) (hq_z (f_Line_readPart t i j)) ([hq_o2 h ta (nI len) (nI (hq_fnd t 58 i (j - i))) (f_Line_readPart_o2 t i j) lt sd fc, hq_ai ta (G 2) 100 t] ++ Z) := by
  refine hq_bI (by decide) (Nat.le_of_ble_eq_true rfl) (fun r u h => by rw [h]; exact hq_znar _) ?_
  intro p e s m args below meth c Q hx hb hml hts hown hA hK hN hret ls H locs hl hP hD hS
  have hown : s.vm.findClass "HashedLearner$Line" = some m.cls := hown
  have hl : lv_has ls 3 [(0, .ref h), (1, .int (nI i)), (2, .int (nI j))] := hl
  refine lv_aload_n hx hb d_Line_readPart_0 rfl (lv_at hl 0 rfl) ?_
  refine lv_aload_n hx hb d_Line_readPart_1 rfl (lv_at hl 0 rfl) ?_
  refine lv_bipush (v := 58) hx hb d_Line_readPart_2 (by decide) ?_
  refine lv_iload_n hx hb d_Line_readPart_4 rfl (lv_at hl 1 rfl) ?_
  refine lv_iload_n hx hb d_Line_readPart_5 rfl (lv_at hl 2 rfl) ?_
  have hPc : va_P D hq_cl ([hq_o2 h ta (nI len) ne pn lt sd fc, hq_ai ta (G 2) 100 t] ++ Z) H := hP
  have hDc : va_D A ([hq_o2 h ta (nI len) ne pn lt sd fc, hq_ai ta (G 2) 100 t] ++ Z) := hD
  refine hq_iF (hq_rV (As := [.int 58, .int (nI i), .int (nI j)]) (rest := [.ref h]) hx hb hml hown hts (c_Line_find l D G A Z h ta t len ne pn lt sd fc 58 i j (by first | assumption | omega) (by first | assumption | omega)) yy_Line_find lk_Line_39 hA hK hN hS hPc hDc 0 2 rfl rfl rfl hl.1 rfl (Nat.le_of_ble_eq_true rfl) d_Line_readPart_6 ⟨by decide, by decide⟩ ⟨by decide, by decide⟩) hS (fun H locs hP hD hS => ?_)
  have hP : va_P D hq_cl ([hq_o2 h ta (nI len) ne pn lt sd fc, hq_ai ta (G 2) 100 t] ++ Z) H := hP
  have hD : va_D A ([hq_o2 h ta (nI len) ne pn lt sd fc, hq_ai ta (G 2) 100 t] ++ Z) := hD
  have hp := hq_fnd_le t 58 (j - i) i
  refine va_put (D := D) (ci := 2) (v := .int (nI (hq_fnd t 58 i (j - i)))) (ty := .int) (C := R_Line) (T := F_Line) (N := 7) hx hb hts uw_Line t_Line t_Line_ok n_Line hown hK hP hD hS 0 rfl rfl 2 (by decide) (hts _ fl_Line_19) (fun _ h9 => h9) rfl (by decide +kernel) (rfl) (rfl) (Nat.le_of_ble_eq_true rfl) d_Line_readPart_9 (fun H locs hP hD hS => ?_)
  have hP : va_P D hq_cl ([hq_o2 h ta (nI len) (nI (hq_fnd t 58 i (j - i))) pn lt sd fc, hq_ai ta (G 2) 100 t] ++ Z) H := hP
  have hD : va_D A ([hq_o2 h ta (nI len) (nI (hq_fnd t 58 i (j - i))) pn lt sd fc, hq_ai ta (G 2) 100 t] ++ Z) := hD
  refine lv_aload_n hx hb d_Line_readPart_12 rfl (lv_at hl 0 rfl) ?_
  refine lv_aload_n hx hb d_Line_readPart_13 rfl (lv_at hl 0 rfl) ?_
  refine va_get (D := D) (ci := 2) (v := .int (nI (hq_fnd t 58 i (j - i)))) (C := R_Line) (T := F_Line) (N := 7) hx hb hts uw_Line hown hK hP 0 rfl rfl 2 (by decide) (hts _ fl_Line_19) (fun _ h9 => h9) rfl d_Line_readPart_14 ?_
  refine lv_iload_n hx hb d_Line_readPart_17 rfl (lv_at hl 2 rfl) ?_
  refine lv_icmp_ge (tgt := 35) hx hb d_Line_readPart_18 rfl (fun c18 => ?_) (fun c18 => ?_)
  · -- 18 taken
    have c18 : j ≤ (hq_fnd t 58 i (j - i)) := (nI_leI (a := j) (b := hq_fnd t 58 i (j - i)) (by omega) (by omega)).mp c18
    refine lv_bipush (v := 100) hx hb d_Line_readPart_35 (by decide) ?_
    refine va_put (D := D) (ci := 2) (v := .int 100) (ty := .int) (C := R_Line) (T := F_Line) (N := 7) hx hb hts uw_Line t_Line t_Line_ok n_Line hown hK hP hD hS 0 rfl rfl 3 (by decide) (hts _ fl_Line_22) (fun _ h9 => h9) rfl (by decide +kernel) (rfl) (rfl) (Nat.le_of_ble_eq_true rfl) d_Line_readPart_37 (fun H locs hP hD hS => ?_)
    have hP : va_P D hq_cl ([hq_o2 h ta (nI len) (nI (hq_fnd t 58 i (j - i))) 100 lt sd fc, hq_ai ta (G 2) 100 t] ++ Z) H := hP
    have hD : va_D A ([hq_o2 h ta (nI len) (nI (hq_fnd t 58 i (j - i))) 100 lt sd fc, hq_ai ta (G 2) 100 t] ++ Z) := hD
    refine lv_aload_n hx hb d_Line_readPart_40 rfl (lv_at hl 0 rfl) ?_
    refine va_get (D := D) (ci := 2) (v := .int (nI (hq_fnd t 58 i (j - i)))) (C := R_Line) (T := F_Line) (N := 7) hx hb hts uw_Line hown hK hP 0 rfl rfl 2 (by decide) (hts _ fl_Line_19) (fun _ h9 => h9) rfl d_Line_readPart_41 ?_
    refine lv_iload_n hx hb d_Line_readPart_44 rfl (lv_at hl 1 rfl) ?_
    refine lv_icmp_le (tgt := 61) hx hb d_Line_readPart_45 rfl (fun c45 => ?_) (fun c45 => ?_)
    · -- 45 taken
      have c45 : (hq_fnd t 58 i (j - i)) ≤ i := (nI_leI (a := hq_fnd t 58 i (j - i)) (b := i) (by omega) (by omega)).mp c45
      refine lv_iconst (v := 0) hx hb d_Line_readPart_61 (by decide) ?_
      have hP : va_P D hq_cl ([hq_o2 h ta (nI len) (nI (hq_fnd t 58 i (j - i))) (f_Line_readPart_o2 t i j) lt sd fc, hq_ai ta (G 2) 100 t] ++ Z) H := by rw [show f_Line_readPart_o2 t i j = 100 by (rw [f_Line_readPart_o2, if_pos c18] <;> rfl)]; exact hP
      have hD : va_D A ([hq_o2 h ta (nI len) (nI (hq_fnd t 58 i (j - i))) (f_Line_readPart_o2 t i j) lt sd fc, hq_ai ta (G 2) 100 t] ++ Z) := by rw [show f_Line_readPart_o2 t i j = 100 by (rw [f_Line_readPart_o2, if_pos c18] <;> rfl)]; exact hD
      exact hret 0 () H locs 62 ls d_Line_readPart_62 (by rw [f_Line_readPart, if_pos c18, if_pos c45] <;> rfl) hP hD hS
    · -- 45 not taken
      have c45 : ¬ (hq_fnd t 58 i (j - i)) ≤ i := fun h => c45 ((nI_leI (a := hq_fnd t 58 i (j - i)) (b := i) (by omega) (by omega)).mpr h)
      refine lv_aload_n hx hb d_Line_readPart_48 rfl (lv_at hl 0 rfl) ?_
      refine va_get (D := D) (ci := 2) (v := .int 100) (C := R_Line) (T := F_Line) (N := 7) hx hb hts uw_Line hown hK hP 0 rfl rfl 3 (by decide) (hts _ fl_Line_22) (fun _ h9 => h9) rfl d_Line_readPart_49 ?_
      refine lv_ldc (v := (-2147483648)) hx hb hown (hts _ ki_Line_73) d_Line_readPart_52 ?_
      refine lv_icmp_eq (tgt := 61) hx hb d_Line_readPart_54 rfl (fun c54 => ?_) (fun c54 => ?_)
      · exact absurd c54 (by decide)
      · skip
        refine lv_iconst (v := 1) hx hb d_Line_readPart_57 (by decide) ?_
        refine lv_goto (tgt := 62) hx hb d_Line_readPart_58 rfl ?_
        have hP : va_P D hq_cl ([hq_o2 h ta (nI len) (nI (hq_fnd t 58 i (j - i))) (f_Line_readPart_o2 t i j) lt sd fc, hq_ai ta (G 2) 100 t] ++ Z) H := by rw [show f_Line_readPart_o2 t i j = 100 by (rw [f_Line_readPart_o2, if_pos c18] <;> rfl)]; exact hP
        have hD : va_D A ([hq_o2 h ta (nI len) (nI (hq_fnd t 58 i (j - i))) (f_Line_readPart_o2 t i j) lt sd fc, hq_ai ta (G 2) 100 t] ++ Z) := by rw [show f_Line_readPart_o2 t i j = 100 by (rw [f_Line_readPart_o2, if_pos c18] <;> rfl)]; exact hD
        exact hret 1 () H locs 62 ls d_Line_readPart_62 (by rw [f_Line_readPart, if_pos c18, if_neg c45] <;> rfl) hP hD hS
  · -- 18 not taken
    have c18 : ¬ j ≤ (hq_fnd t 58 i (j - i)) := fun h => c18 ((nI_leI (a := j) (b := hq_fnd t 58 i (j - i)) (by omega) (by omega)).mpr h)
    refine lv_aload_n hx hb d_Line_readPart_21 rfl (lv_at hl 0 rfl) ?_
    refine lv_aload_n hx hb d_Line_readPart_22 rfl (lv_at hl 0 rfl) ?_
    refine va_get (D := D) (ci := 2) (v := .int (nI (hq_fnd t 58 i (j - i)))) (C := R_Line) (T := F_Line) (N := 7) hx hb hts uw_Line hown hK hP 0 rfl rfl 2 (by decide) (hts _ fl_Line_19) (fun _ h9 => h9) rfl d_Line_readPart_23 ?_
    refine lv_iconst (v := 1) hx hb d_Line_readPart_26 (by decide) ?_
    refine lv_iadd hx hb d_Line_readPart_27 ?_
    refine hq_topi (x' := nI ((hq_fnd t 58 i (j - i)) + 1)) (nI_add (hq_fnd t 58 i (j - i)) 1) ?_
    refine lv_iload_n hx hb d_Line_readPart_28 rfl (lv_at hl 2 rfl) ?_
    have hPc : va_P D hq_cl ([hq_o2 h ta (nI len) (nI (hq_fnd t 58 i (j - i))) pn lt sd fc, hq_ai ta (G 2) 100 t] ++ Z) H := hP
    have hDc : va_D A ([hq_o2 h ta (nI len) (nI (hq_fnd t 58 i (j - i))) pn lt sd fc, hq_ai ta (G 2) 100 t] ++ Z) := hD
    refine hq_iF (hq_rV (As := [.int (nI ((hq_fnd t 58 i (j - i)) + 1)), .int (nI j)]) (rest := [.ref h]) hx hb hml hown hts (c_Line_readNumber l D G A Z h ta t len (nI (hq_fnd t 58 i (j - i))) pn lt sd fc ((hq_fnd t 58 i (j - i)) + 1) j (by first | assumption | omega) (by first | assumption | omega) (by first | assumption | omega)) yy_Line_readNumber lk_Line_70 hA hK hN hS hPc hDc 0 2 rfl rfl rfl hl.1 rfl (Nat.le_of_ble_eq_true rfl) d_Line_readPart_29 ⟨by decide, by decide⟩ ⟨by decide, by decide⟩) hS (fun H locs hP hD hS => ?_)
    have hP : va_P D hq_cl ([hq_o2 h ta (nI len) (nI (hq_fnd t 58 i (j - i))) pn lt sd fc, hq_ai ta (G 2) 100 t] ++ Z) H := hP
    have hD : va_D A ([hq_o2 h ta (nI len) (nI (hq_fnd t 58 i (j - i))) pn lt sd fc, hq_ai ta (G 2) 100 t] ++ Z) := hD
    refine lv_goto (tgt := 37) hx hb d_Line_readPart_32 rfl ?_
    refine va_put (D := D) (ci := 2) (v := .int (hq_numC t ((hq_fnd t 58 i (j - i)) + 1) j)) (ty := .int) (C := R_Line) (T := F_Line) (N := 7) hx hb hts uw_Line t_Line t_Line_ok n_Line hown hK hP hD hS 0 rfl rfl 3 (by decide) (hts _ fl_Line_22) (fun _ h9 => h9) rfl (by decide +kernel) (rfl) (rfl) (Nat.le_of_ble_eq_true rfl) d_Line_readPart_37 (fun H locs hP hD hS => ?_)
    have hP : va_P D hq_cl ([hq_o2 h ta (nI len) (nI (hq_fnd t 58 i (j - i))) (hq_numC t ((hq_fnd t 58 i (j - i)) + 1) j) lt sd fc, hq_ai ta (G 2) 100 t] ++ Z) H := hP
    have hD : va_D A ([hq_o2 h ta (nI len) (nI (hq_fnd t 58 i (j - i))) (hq_numC t ((hq_fnd t 58 i (j - i)) + 1) j) lt sd fc, hq_ai ta (G 2) 100 t] ++ Z) := hD
    refine lv_aload_n hx hb d_Line_readPart_40 rfl (lv_at hl 0 rfl) ?_
    refine va_get (D := D) (ci := 2) (v := .int (nI (hq_fnd t 58 i (j - i)))) (C := R_Line) (T := F_Line) (N := 7) hx hb hts uw_Line hown hK hP 0 rfl rfl 2 (by decide) (hts _ fl_Line_19) (fun _ h9 => h9) rfl d_Line_readPart_41 ?_
    refine lv_iload_n hx hb d_Line_readPart_44 rfl (lv_at hl 1 rfl) ?_
    refine lv_icmp_le (tgt := 61) hx hb d_Line_readPart_45 rfl (fun c45 => ?_) (fun c45 => ?_)
    · -- 45 taken
      have c45 : (hq_fnd t 58 i (j - i)) ≤ i := (nI_leI (a := hq_fnd t 58 i (j - i)) (b := i) (by omega) (by omega)).mp c45
      refine lv_iconst (v := 0) hx hb d_Line_readPart_61 (by decide) ?_
      have hP : va_P D hq_cl ([hq_o2 h ta (nI len) (nI (hq_fnd t 58 i (j - i))) (f_Line_readPart_o2 t i j) lt sd fc, hq_ai ta (G 2) 100 t] ++ Z) H := by rw [show f_Line_readPart_o2 t i j = hq_numC t ((hq_fnd t 58 i (j - i)) + 1) j by (rw [f_Line_readPart_o2, if_neg c18] <;> rfl)]; exact hP
      have hD : va_D A ([hq_o2 h ta (nI len) (nI (hq_fnd t 58 i (j - i))) (f_Line_readPart_o2 t i j) lt sd fc, hq_ai ta (G 2) 100 t] ++ Z) := by rw [show f_Line_readPart_o2 t i j = hq_numC t ((hq_fnd t 58 i (j - i)) + 1) j by (rw [f_Line_readPart_o2, if_neg c18] <;> rfl)]; exact hD
      exact hret 0 () H locs 62 ls d_Line_readPart_62 (by rw [f_Line_readPart, if_neg c18, if_pos c45] <;> rfl) hP hD hS
    · -- 45 not taken
      have c45 : ¬ (hq_fnd t 58 i (j - i)) ≤ i := fun h => c45 ((nI_leI (a := hq_fnd t 58 i (j - i)) (b := i) (by omega) (by omega)).mpr h)
      refine lv_aload_n hx hb d_Line_readPart_48 rfl (lv_at hl 0 rfl) ?_
      refine va_get (D := D) (ci := 2) (v := .int (hq_numC t ((hq_fnd t 58 i (j - i)) + 1) j)) (C := R_Line) (T := F_Line) (N := 7) hx hb hts uw_Line hown hK hP 0 rfl rfl 3 (by decide) (hts _ fl_Line_22) (fun _ h9 => h9) rfl d_Line_readPart_49 ?_
      refine lv_ldc (v := (-2147483648)) hx hb hown (hts _ ki_Line_73) d_Line_readPart_52 ?_
      refine lv_icmp_eq (tgt := 61) hx hb d_Line_readPart_54 rfl (fun c54 => ?_) (fun c54 => ?_)
      · -- 54 taken
        have c54 : (hq_numC t ((hq_fnd t 58 i (j - i)) + 1) j) = (-2147483648) := c54
        refine lv_iconst (v := 0) hx hb d_Line_readPart_61 (by decide) ?_
        have hP : va_P D hq_cl ([hq_o2 h ta (nI len) (nI (hq_fnd t 58 i (j - i))) (f_Line_readPart_o2 t i j) lt sd fc, hq_ai ta (G 2) 100 t] ++ Z) H := by rw [show f_Line_readPart_o2 t i j = hq_numC t ((hq_fnd t 58 i (j - i)) + 1) j by (rw [f_Line_readPart_o2, if_neg c18] <;> rfl)]; exact hP
        have hD : va_D A ([hq_o2 h ta (nI len) (nI (hq_fnd t 58 i (j - i))) (f_Line_readPart_o2 t i j) lt sd fc, hq_ai ta (G 2) 100 t] ++ Z) := by rw [show f_Line_readPart_o2 t i j = hq_numC t ((hq_fnd t 58 i (j - i)) + 1) j by (rw [f_Line_readPart_o2, if_neg c18] <;> rfl)]; exact hD
        exact hret 0 () H locs 62 ls d_Line_readPart_62 (by rw [f_Line_readPart, if_neg c18, if_neg c45, if_pos c54] <;> rfl) hP hD hS
      · -- 54 not taken
        have c54 : ¬ (hq_numC t ((hq_fnd t 58 i (j - i)) + 1) j) = (-2147483648) := c54
        refine lv_iconst (v := 1) hx hb d_Line_readPart_57 (by decide) ?_
        refine lv_goto (tgt := 62) hx hb d_Line_readPart_58 rfl ?_
        have hP : va_P D hq_cl ([hq_o2 h ta (nI len) (nI (hq_fnd t 58 i (j - i))) (f_Line_readPart_o2 t i j) lt sd fc, hq_ai ta (G 2) 100 t] ++ Z) H := by rw [show f_Line_readPart_o2 t i j = hq_numC t ((hq_fnd t 58 i (j - i)) + 1) j by (rw [f_Line_readPart_o2, if_neg c18] <;> rfl)]; exact hP
        have hD : va_D A ([hq_o2 h ta (nI len) (nI (hq_fnd t 58 i (j - i))) (f_Line_readPart_o2 t i j) lt sd fc, hq_ai ta (G 2) 100 t] ++ Z) := by rw [show f_Line_readPart_o2 t i j = hq_numC t ((hq_fnd t 58 i (j - i)) + 1) j by (rw [f_Line_readPart_o2, if_neg c18] <;> rfl)]; exact hD
        exact hret 1 () H locs 62 ls d_Line_readPart_62 (by rw [f_Line_readPart, if_neg c18, if_neg c45, if_neg c54] <;> rfl) hP hD hS
theorem d_NameHash_of_0 : decode b_NameHash_of 0 = .ok (.aload_n 0, 1) := by decide +kernel
theorem d_NameHash_of_1 : decode b_NameHash_of 1 = .ok (.iload_n 1, 1) := by decide +kernel
theorem d_NameHash_of_2 : decode b_NameHash_of 2 = .ok (.iload_n 2, 1) := by decide +kernel
theorem d_NameHash_of_3 : decode b_NameHash_of 3 = .ok (.bipush (9), 2) := by decide +kernel
theorem d_NameHash_of_5 : decode b_NameHash_of 5 = .ok (.invokestatic 7, 3) := by decide +kernel
theorem d_NameHash_of_8 : decode b_NameHash_of 8 = .ok (.ifCond .eq (12), 3) := by decide +kernel
theorem d_NameHash_of_11 : decode b_NameHash_of 11 = .ok (.aload_n 0, 1) := by decide +kernel
theorem d_NameHash_of_12 : decode b_NameHash_of 12 = .ok (.iload_n 1, 1) := by decide +kernel
theorem d_NameHash_of_13 : decode b_NameHash_of 13 = .ok (.iload_n 2, 1) := by decide +kernel
theorem d_NameHash_of_14 : decode b_NameHash_of 14 = .ok (.invokestatic 13, 3) := by decide +kernel
theorem d_NameHash_of_17 : decode b_NameHash_of 17 = .ok (.iload_n 3, 1) := by decide +kernel
theorem d_NameHash_of_18 : decode b_NameHash_of 18 = .ok (.iadd, 1) := by decide +kernel
theorem d_NameHash_of_19 : decode b_NameHash_of 19 = .ok (.ireturn, 1) := by decide +kernel
theorem d_NameHash_of_20 : decode b_NameHash_of 20 = .ok (.iload_n 3, 1) := by decide +kernel
theorem d_NameHash_of_21 : decode b_NameHash_of 21 = .ok (.istore 4, 2) := by decide +kernel
theorem d_NameHash_of_23 : decode b_NameHash_of 23 = .ok (.iload_n 1, 1) := by decide +kernel
theorem d_NameHash_of_24 : decode b_NameHash_of 24 = .ok (.istore 5, 2) := by decide +kernel
theorem d_NameHash_of_26 : decode b_NameHash_of 26 = .ok (.iload 5, 2) := by decide +kernel
theorem d_NameHash_of_28 : decode b_NameHash_of 28 = .ok (.iconst 4, 1) := by decide +kernel
theorem d_NameHash_of_29 : decode b_NameHash_of 29 = .ok (.iadd, 1) := by decide +kernel
theorem d_NameHash_of_30 : decode b_NameHash_of 30 = .ok (.iload_n 2, 1) := by decide +kernel
theorem d_NameHash_of_31 : decode b_NameHash_of 31 = .ok (.if_icmp .gt (38), 3) := by decide +kernel
theorem d_NameHash_of_34 : decode b_NameHash_of 34 = .ok (.iload 4, 2) := by decide +kernel
theorem d_NameHash_of_36 : decode b_NameHash_of 36 = .ok (.aload_n 0, 1) := by decide +kernel
theorem d_NameHash_of_37 : decode b_NameHash_of 37 = .ok (.iload 5, 2) := by decide +kernel
theorem d_NameHash_of_39 : decode b_NameHash_of 39 = .ok (.iconst 4, 1) := by decide +kernel
theorem d_NameHash_of_40 : decode b_NameHash_of 40 = .ok (.invokestatic 17, 3) := by decide +kernel
theorem d_NameHash_of_43 : decode b_NameHash_of 43 = .ok (.invokestatic 22, 3) := by decide +kernel
theorem d_NameHash_of_46 : decode b_NameHash_of 46 = .ok (.ixor, 1) := by decide +kernel
theorem d_NameHash_of_47 : decode b_NameHash_of 47 = .ok (.istore 4, 2) := by decide +kernel
theorem d_NameHash_of_49 : decode b_NameHash_of 49 = .ok (.iload 4, 2) := by decide +kernel
theorem d_NameHash_of_51 : decode b_NameHash_of 51 = .ok (.bipush (13), 2) := by decide +kernel
theorem d_NameHash_of_53 : decode b_NameHash_of 53 = .ok (.invokestatic 26, 3) := by decide +kernel
theorem d_NameHash_of_56 : decode b_NameHash_of 56 = .ok (.iconst 5, 1) := by decide +kernel
theorem d_NameHash_of_57 : decode b_NameHash_of 57 = .ok (.imul, 1) := by decide +kernel
theorem d_NameHash_of_58 : decode b_NameHash_of 58 = .ok (.ldc 30, 2) := by decide +kernel
theorem d_NameHash_of_60 : decode b_NameHash_of 60 = .ok (.iadd, 1) := by decide +kernel
theorem d_NameHash_of_61 : decode b_NameHash_of 61 = .ok (.istore 4, 2) := by decide +kernel
theorem d_NameHash_of_63 : decode b_NameHash_of 63 = .ok (.iinc 5 (4), 3) := by decide +kernel
theorem d_NameHash_of_66 : decode b_NameHash_of 66 = .ok (.goto (-40), 3) := by decide +kernel
theorem d_NameHash_of_69 : decode b_NameHash_of 69 = .ok (.iload 5, 2) := by decide +kernel
theorem d_NameHash_of_71 : decode b_NameHash_of 71 = .ok (.iload_n 2, 1) := by decide +kernel
theorem d_NameHash_of_72 : decode b_NameHash_of 72 = .ok (.if_icmp .ge (21), 3) := by decide +kernel
theorem d_NameHash_of_75 : decode b_NameHash_of 75 = .ok (.iload 4, 2) := by decide +kernel
theorem d_NameHash_of_77 : decode b_NameHash_of 77 = .ok (.aload_n 0, 1) := by decide +kernel
theorem d_NameHash_of_78 : decode b_NameHash_of 78 = .ok (.iload 5, 2) := by decide +kernel
theorem d_NameHash_of_80 : decode b_NameHash_of 80 = .ok (.iload_n 2, 1) := by decide +kernel
theorem d_NameHash_of_81 : decode b_NameHash_of 81 = .ok (.iload 5, 2) := by decide +kernel
theorem d_NameHash_of_83 : decode b_NameHash_of 83 = .ok (.isub, 1) := by decide +kernel
theorem d_NameHash_of_84 : decode b_NameHash_of 84 = .ok (.invokestatic 17, 3) := by decide +kernel
theorem d_NameHash_of_87 : decode b_NameHash_of 87 = .ok (.invokestatic 22, 3) := by decide +kernel
theorem d_NameHash_of_90 : decode b_NameHash_of 90 = .ok (.ixor, 1) := by decide +kernel
theorem d_NameHash_of_91 : decode b_NameHash_of 91 = .ok (.istore 4, 2) := by decide +kernel
theorem d_NameHash_of_93 : decode b_NameHash_of 93 = .ok (.iload 4, 2) := by decide +kernel
theorem d_NameHash_of_95 : decode b_NameHash_of 95 = .ok (.iload_n 2, 1) := by decide +kernel
theorem d_NameHash_of_96 : decode b_NameHash_of 96 = .ok (.iload_n 1, 1) := by decide +kernel
theorem d_NameHash_of_97 : decode b_NameHash_of 97 = .ok (.isub, 1) := by decide +kernel
theorem d_NameHash_of_98 : decode b_NameHash_of 98 = .ok (.ixor, 1) := by decide +kernel
theorem d_NameHash_of_99 : decode b_NameHash_of 99 = .ok (.invokestatic 31, 3) := by decide +kernel
theorem d_NameHash_of_102 : decode b_NameHash_of 102 = .ok (.ireturn, 1) := by decide +kernel
def hq_hs (h k : Int32) : Int32 := (f_NameHash_roll (h ^^^ (f_NameHash_mixed k)) 13) * 5 + (-430675100)
def hq_b4 (t : Nat → Int32) (i : Nat) : Int32 := hq_blk t i 4 0
def hq_hb (t : Nat → Int32) (i : Nat) (sd : Int32) (b : Nat) : Int32 := Nat.rec sd (fun b h => hq_hs h (hq_b4 t (i + 4 * b))) b
theorem hq_hb_0 (t : Nat → Int32) (i : Nat) (sd : Int32) : hq_hb t i sd 0 = sd := by unfold hq_hb; exact Eq.refl _
theorem hq_hb_s (t : Nat → Int32) (i : Nat) (sd : Int32) (b : Nat) : hq_hb t i sd (b + 1) = hq_hs (hq_hb t i sd b) (hq_b4 t (i + 4 * b)) := by unfold hq_hb; exact Eq.refl _
def hq_hash (t : Nat → Int32) (i j : Nat) (sd : Int32) : Int32 := if hq_areD t i j 9 = true then hq_dec t i (j - i) 0 + sd else f_NameHash_finished ((if j ≤ i + 4 * ((j - i) / 4) then hq_hb t i sd ((j - i) / 4) else hq_hb t i sd ((j - i) / 4) ^^^ f_NameHash_mixed (hq_blk t (i + 4 * ((j - i) / 4)) (j - (i + 4 * ((j - i) / 4))) 0)) ^^^ nI (j - i))
theorem hq_hash_fin {t : Nat → Int32} {i j b : Nat} {sd : Int32} (h0 : ¬ hq_areD t i j 9 = true) (he : j < i + 4 * b + 4) (ha : i + 4 * b ≤ j) : hq_hash t i j sd = f_NameHash_finished ((if j ≤ i + 4 * b then hq_hb t i sd b else hq_hb t i sd b ^^^ f_NameHash_mixed (hq_blk t (i + 4 * b) (j - (i + 4 * b)) 0)) ^^^ nI (j - i)) := by
  have e2 : (j - i) / 4 = b := by omega
  rw [hq_hash, if_neg h0, e2]
set_option maxHeartbeats 4000000 in
set_option maxRecDepth 100000 in
theorem c_NameHash_of (l : Launch) (D : va_G) (G : Nat → ClassId) (A : Nat → Prop) (Z : va_W) (ta : Nat) (n : Nat) (t : Nat → Int32) (i : Nat) (j : Nat) (sd : Int32) (hn : n < 2 ^ 30) (hj : j ≤ n) (hi : i ≤ j) : hq_FI l D G A y_NameHash_of b_NameHash_of 6 .int 2 [.ref ta, .int (nI i), .int (nI j), .int sd] ([hq_ai ta (G 2) n t] ++ Z) (hq_hash t i j sd) ([hq_ai ta (G 2) n t] ++ Z) := by
  refine hq_bI (by decide) (Nat.le_of_ble_eq_true rfl) (fun _ _ _ => rfl) ?_
  intro p e s m args below meth c Q hx hb hml hts hown hA hK hN hret ls H locs hl hP hD hS
  have hown : s.vm.findClass "HashedLearner$NameHash" = some m.cls := hown
  have hl : lv_has ls 6 [(0, .ref ta), (1, .int (nI i)), (2, .int (nI j)), (3, .int sd)] := hl
  refine lv_aload_n hx hb d_NameHash_of_0 rfl (lv_at hl 0 rfl) ?_
  refine lv_iload_n hx hb d_NameHash_of_1 rfl (lv_at hl 1 rfl) ?_
  refine lv_iload_n hx hb d_NameHash_of_2 rfl (lv_at hl 2 rfl) ?_
  refine lv_bipush (v := nI 9) hx hb d_NameHash_of_3 (by decide) ?_
  have hPc : va_P D hq_cl ([hq_ai ta (G 2) n t] ++ Z) H := hP
  have hDc : va_D A ([hq_ai ta (G 2) n t] ++ Z) := hD
  refine hq_iF (hq_rSN (As := [.ref ta, .int (nI i), .int (nI j), .int (nI 9)]) (rest := []) hx hb hml hown hts (c_H_areDigits l D G A Z ta n t i j 9 (by first | assumption | omega) (by first | assumption | omega) (by first | assumption | omega) (by first | assumption | omega)) yy_H_areDigits lk_NameHash_7 hA hK hN hS hPc hDc rfl hl.1 rfl (Nat.le_of_ble_eq_true rfl) d_NameHash_of_5 ⟨by decide, by decide⟩ ⟨by decide, by decide⟩) hS (fun H locs hP hD hS => ?_)
  have hP : va_P D hq_cl ([hq_ai ta (G 2) n t] ++ Z) H := hP
  have hD : va_D A ([hq_ai ta (G 2) n t] ++ Z) := hD
  refine lv_if_eq (tgt := 20) hx hb d_NameHash_of_8 rfl (fun c8 => ?_) (fun c8 => ?_)
  · -- 8 taken
    have c8 : ¬ (hq_areD t i j 9) = true := by rw [hq_z0.mp c8]; decide
    refine lv_iload_n hx hb d_NameHash_of_20 rfl (lv_at hl 3 rfl) ?_
    refine hq_topi (x' := hq_hb t i sd 0) ((hq_hb_0 t i sd).symm) ?_
    refine lv_istore (nL := 6) (lv' := [(4, .int (hq_hb t i sd 0)), (0, .ref ta), (1, .int (nI i)), (2, .int (nI j)), (3, .int sd)]) hx hb d_NameHash_of_21 hl (by decide) rfl (fun ls hl => ?_)
    refine lv_iload_n hx hb d_NameHash_of_23 rfl (lv_at hl 2 rfl) ?_
    refine hq_topi (x' := nI (i + 4 * 0)) (rfl) ?_
    refine lv_istore (nL := 6) (lv' := [(5, .int (nI (i + 4 * 0))), (4, .int (hq_hb t i sd 0)), (0, .ref ta), (1, .int (nI i)), (2, .int (nI j)), (3, .int sd)]) hx hb d_NameHash_of_24 hl (by decide) rfl (fun ls hl => ?_)
    have cut26 : ∀ (kz : Nat) (b : Nat) (ls : Array Slot) (H : Heap) (locs : List Loc), j - (i + 4 * b) = kz → (i + 4 * b ≤ j) → lv_has ls 6 [(0, .ref ta), (1, .int (nI i)), (2, .int (nI j)), (4, .int (hq_hb t i sd b)), (5, .int (nI (i + 4 * b)))] → va_P D hq_cl ([hq_ai ta (G 2) n t] ++ Z) H → va_D A ([hq_ai ta (G 2) n t] ++ Z) → va_S A s.heap H locs → W p l e (hq_rm 2 0 0) s m args below meth c H locs 0 0 Q (F0 m 26 ls []) := by
      intro kz
      induction kz using Nat.strongRecOn with
      | ind kz ih =>
        intro b ls H locs hkz ha hl hP hD hS
        subst hkz
        refine lv_iload hx hb d_NameHash_of_26 (lv_at hl 4 rfl) ?_
        refine lv_iconst (v := nI 4) hx hb d_NameHash_of_28 (by decide) ?_
        refine lv_iadd hx hb d_NameHash_of_29 ?_
        refine hq_topi (x' := nI ((i + 4 * b) + 4)) (nI_add (i + 4 * b) 4) ?_
        refine lv_iload_n hx hb d_NameHash_of_30 rfl (lv_at hl 2 rfl) ?_
        refine lv_icmp_gt (tgt := 69) hx hb d_NameHash_of_31 rfl (fun c31 => ?_) (fun c31 => ?_)
        · -- 31 taken
          have c31 : j < ((i + 4 * b) + 4) := (nI_ltI (a := j) (b := (i + 4 * b) + 4) (by omega) (by omega)).mp c31
          refine lv_iload hx hb d_NameHash_of_69 (lv_at hl 4 rfl) ?_
          refine lv_iload_n hx hb d_NameHash_of_71 rfl (lv_at hl 2 rfl) ?_
          refine lv_icmp_ge (tgt := 93) hx hb d_NameHash_of_72 rfl (fun c72 => ?_) (fun c72 => ?_)
          · -- 72 taken
            have c72 : j ≤ (i + 4 * b) := (nI_leI (a := j) (b := i + 4 * b) (by omega) (by omega)).mp c72
            refine lv_iload hx hb d_NameHash_of_93 (lv_at hl 3 rfl) ?_
            refine lv_iload_n hx hb d_NameHash_of_95 rfl (lv_at hl 2 rfl) ?_
            refine lv_iload_n hx hb d_NameHash_of_96 rfl (lv_at hl 1 rfl) ?_
            refine lv_isub hx hb d_NameHash_of_97 ?_
            refine hq_topi (x' := nI (j - i)) (pk_sub (by omega)) ?_
            refine lv_ixor hx hb d_NameHash_of_98 ?_
            have hPc : va_P D hq_cl ([] ++ ([hq_ai ta (G 2) n t] ++ Z)) H := hP
            have hDc : va_D A ([] ++ ([hq_ai ta (G 2) n t] ++ Z)) := hD
            refine hq_iF (hq_rS (As := [.int ((hq_hb t i sd b) ^^^ (nI (j - i)))]) (rest := []) hx hb hml hown hts (c_NameHash_finished l D G A ([hq_ai ta (G 2) n t] ++ Z) ((hq_hb t i sd b) ^^^ (nI (j - i)))) yy_NameHash_finished lk_NameHash_31 hA hK hN hS hPc hDc rfl hl.1 rfl (Nat.le_of_ble_eq_true rfl) d_NameHash_of_99 ⟨by decide, by decide⟩ ⟨by decide, by decide⟩) hS (fun H locs hP hD hS => ?_)
            have hP : va_P D hq_cl ([hq_ai ta (G 2) n t] ++ Z) H := hP
            have hD : va_D A ([hq_ai ta (G 2) n t] ++ Z) := hD
            exact hret (f_NameHash_finished ((hq_hb t i sd b) ^^^ (nI (j - i)))) () H locs 102 ls d_NameHash_of_102 (by rw [hq_hash_fin c8 c31 ha, if_pos c72]) hP hD hS
          · -- 72 not taken
            have c72 : ¬ j ≤ (i + 4 * b) := fun h => c72 ((nI_leI (a := j) (b := i + 4 * b) (by omega) (by omega)).mpr h)
            refine lv_iload hx hb d_NameHash_of_75 (lv_at hl 3 rfl) ?_
            refine lv_aload_n hx hb d_NameHash_of_77 rfl (lv_at hl 0 rfl) ?_
            refine lv_iload hx hb d_NameHash_of_78 (lv_at hl 4 rfl) ?_
            refine lv_iload_n hx hb d_NameHash_of_80 rfl (lv_at hl 2 rfl) ?_
            refine lv_iload hx hb d_NameHash_of_81 (lv_at hl 4 rfl) ?_
            refine lv_isub hx hb d_NameHash_of_83 ?_
            refine hq_topi (x' := nI (j - (i + 4 * b))) (pk_sub (by omega)) ?_
            have hPc : va_P D hq_cl ([hq_ai ta (G 2) n t] ++ Z) H := hP
            have hDc : va_D A ([hq_ai ta (G 2) n t] ++ Z) := hD
            refine hq_iF (hq_rS (As := [.ref ta, .int (nI (i + 4 * b)), .int (nI (j - (i + 4 * b)))]) (rest := [.int (hq_hb t i sd b)]) hx hb hml hown hts (c_NameHash_block l D G A Z ta n t (i + 4 * b) (j - (i + 4 * b)) (by first | assumption | omega) (by first | assumption | omega)) yy_NameHash_block lk_NameHash_17 hA hK hN hS hPc hDc rfl hl.1 rfl (Nat.le_of_ble_eq_true rfl) d_NameHash_of_84 ⟨by decide, by decide⟩ ⟨by decide, by decide⟩) hS (fun H locs hP hD hS => ?_)
            have hP : va_P D hq_cl ([hq_ai ta (G 2) n t] ++ Z) H := hP
            have hD : va_D A ([hq_ai ta (G 2) n t] ++ Z) := hD
            have hPc : va_P D hq_cl ([] ++ ([hq_ai ta (G 2) n t] ++ Z)) H := hP
            have hDc : va_D A ([] ++ ([hq_ai ta (G 2) n t] ++ Z)) := hD
            refine hq_iF (hq_rS (As := [.int (hq_blk t (i + 4 * b) (j - (i + 4 * b)) 0)]) (rest := [.int (hq_hb t i sd b)]) hx hb hml hown hts (c_NameHash_mixed l D G A ([hq_ai ta (G 2) n t] ++ Z) (hq_blk t (i + 4 * b) (j - (i + 4 * b)) 0)) yy_NameHash_mixed lk_NameHash_22 hA hK hN hS hPc hDc rfl hl.1 rfl (Nat.le_of_ble_eq_true rfl) d_NameHash_of_87 ⟨by decide, by decide⟩ ⟨by decide, by decide⟩) hS (fun H locs hP hD hS => ?_)
            have hP : va_P D hq_cl ([hq_ai ta (G 2) n t] ++ Z) H := hP
            have hD : va_D A ([hq_ai ta (G 2) n t] ++ Z) := hD
            refine lv_ixor hx hb d_NameHash_of_90 ?_
            refine lv_istore (nL := 6) (lv' := [(4, .int ((hq_hb t i sd b) ^^^ (f_NameHash_mixed (hq_blk t (i + 4 * b) (j - (i + 4 * b)) 0)))), (0, .ref ta), (1, .int (nI i)), (2, .int (nI j)), (5, .int (nI (i + 4 * b)))]) hx hb d_NameHash_of_91 hl (by decide) rfl (fun ls hl => ?_)
            refine lv_iload hx hb d_NameHash_of_93 (lv_at hl 0 rfl) ?_
            refine lv_iload_n hx hb d_NameHash_of_95 rfl (lv_at hl 3 rfl) ?_
            refine lv_iload_n hx hb d_NameHash_of_96 rfl (lv_at hl 2 rfl) ?_
            refine lv_isub hx hb d_NameHash_of_97 ?_
            refine hq_topi (x' := nI (j - i)) (pk_sub (by omega)) ?_
            refine lv_ixor hx hb d_NameHash_of_98 ?_
            have hPc : va_P D hq_cl ([] ++ ([hq_ai ta (G 2) n t] ++ Z)) H := hP
            have hDc : va_D A ([] ++ ([hq_ai ta (G 2) n t] ++ Z)) := hD
            refine hq_iF (hq_rS (As := [.int (((hq_hb t i sd b) ^^^ (f_NameHash_mixed (hq_blk t (i + 4 * b) (j - (i + 4 * b)) 0))) ^^^ (nI (j - i)))]) (rest := []) hx hb hml hown hts (c_NameHash_finished l D G A ([hq_ai ta (G 2) n t] ++ Z) (((hq_hb t i sd b) ^^^ (f_NameHash_mixed (hq_blk t (i + 4 * b) (j - (i + 4 * b)) 0))) ^^^ (nI (j - i)))) yy_NameHash_finished lk_NameHash_31 hA hK hN hS hPc hDc rfl hl.1 rfl (Nat.le_of_ble_eq_true rfl) d_NameHash_of_99 ⟨by decide, by decide⟩ ⟨by decide, by decide⟩) hS (fun H locs hP hD hS => ?_)
            have hP : va_P D hq_cl ([hq_ai ta (G 2) n t] ++ Z) H := hP
            have hD : va_D A ([hq_ai ta (G 2) n t] ++ Z) := hD
            exact hret (f_NameHash_finished (((hq_hb t i sd b) ^^^ (f_NameHash_mixed (hq_blk t (i + 4 * b) (j - (i + 4 * b)) 0))) ^^^ (nI (j - i)))) () H locs 102 ls d_NameHash_of_102 (by rw [hq_hash_fin c8 c31 ha, if_neg c72]) hP hD hS
        · -- 31 not taken
          have c31 : ¬ j < ((i + 4 * b) + 4) := fun h => c31 ((nI_ltI (a := j) (b := (i + 4 * b) + 4) (by omega) (by omega)).mpr h)
          refine lv_iload hx hb d_NameHash_of_34 (lv_at hl 3 rfl) ?_
          refine lv_aload_n hx hb d_NameHash_of_36 rfl (lv_at hl 0 rfl) ?_
          refine lv_iload hx hb d_NameHash_of_37 (lv_at hl 4 rfl) ?_
          refine lv_iconst (v := nI 4) hx hb d_NameHash_of_39 (by decide) ?_
          have hPc : va_P D hq_cl ([hq_ai ta (G 2) n t] ++ Z) H := hP
          have hDc : va_D A ([hq_ai ta (G 2) n t] ++ Z) := hD
          refine hq_iF (hq_rS (As := [.ref ta, .int (nI (i + 4 * b)), .int (nI 4)]) (rest := [.int (hq_hb t i sd b)]) hx hb hml hown hts (c_NameHash_block l D G A Z ta n t (i + 4 * b) 4 (by first | assumption | omega) (by first | assumption | omega)) yy_NameHash_block lk_NameHash_17 hA hK hN hS hPc hDc rfl hl.1 rfl (Nat.le_of_ble_eq_true rfl) d_NameHash_of_40 ⟨by decide, by decide⟩ ⟨by decide, by decide⟩) hS (fun H locs hP hD hS => ?_)
          have hP : va_P D hq_cl ([hq_ai ta (G 2) n t] ++ Z) H := hP
          have hD : va_D A ([hq_ai ta (G 2) n t] ++ Z) := hD
          refine hq_topi (x' := hq_b4 t (i + 4 * b)) (rfl) ?_
          have hPc : va_P D hq_cl ([] ++ ([hq_ai ta (G 2) n t] ++ Z)) H := hP
          have hDc : va_D A ([] ++ ([hq_ai ta (G 2) n t] ++ Z)) := hD
          refine hq_iF (hq_rS (As := [.int (hq_b4 t (i + 4 * b))]) (rest := [.int (hq_hb t i sd b)]) hx hb hml hown hts (c_NameHash_mixed l D G A ([hq_ai ta (G 2) n t] ++ Z) (hq_b4 t (i + 4 * b))) yy_NameHash_mixed lk_NameHash_22 hA hK hN hS hPc hDc rfl hl.1 rfl (Nat.le_of_ble_eq_true rfl) d_NameHash_of_43 ⟨by decide, by decide⟩ ⟨by decide, by decide⟩) hS (fun H locs hP hD hS => ?_)
          have hP : va_P D hq_cl ([hq_ai ta (G 2) n t] ++ Z) H := hP
          have hD : va_D A ([hq_ai ta (G 2) n t] ++ Z) := hD
          refine lv_ixor hx hb d_NameHash_of_46 ?_
          refine lv_istore (nL := 6) (lv' := [(4, .int ((hq_hb t i sd b) ^^^ (f_NameHash_mixed (hq_b4 t (i + 4 * b))))), (0, .ref ta), (1, .int (nI i)), (2, .int (nI j)), (5, .int (nI (i + 4 * b)))]) hx hb d_NameHash_of_47 hl (by decide) rfl (fun ls hl => ?_)
          refine lv_iload hx hb d_NameHash_of_49 (lv_at hl 0 rfl) ?_
          refine lv_bipush (v := 13) hx hb d_NameHash_of_51 (by decide) ?_
          have hPc : va_P D hq_cl ([] ++ ([hq_ai ta (G 2) n t] ++ Z)) H := hP
          have hDc : va_D A ([] ++ ([hq_ai ta (G 2) n t] ++ Z)) := hD
          refine hq_iF (hq_rS (As := [.int ((hq_hb t i sd b) ^^^ (f_NameHash_mixed (hq_b4 t (i + 4 * b)))), .int 13]) (rest := []) hx hb hml hown hts (c_NameHash_roll l D G A ([hq_ai ta (G 2) n t] ++ Z) ((hq_hb t i sd b) ^^^ (f_NameHash_mixed (hq_b4 t (i + 4 * b)))) 13) yy_NameHash_roll lk_NameHash_26 hA hK hN hS hPc hDc rfl hl.1 rfl (Nat.le_of_ble_eq_true rfl) d_NameHash_of_53 ⟨by decide, by decide⟩ ⟨by decide, by decide⟩) hS (fun H locs hP hD hS => ?_)
          have hP : va_P D hq_cl ([hq_ai ta (G 2) n t] ++ Z) H := hP
          have hD : va_D A ([hq_ai ta (G 2) n t] ++ Z) := hD
          refine lv_iconst (v := 5) hx hb d_NameHash_of_56 (by decide) ?_
          refine lv_imul hx hb d_NameHash_of_57 ?_
          refine lv_ldc (v := (-430675100)) hx hb hown (hts _ ki_NameHash_30) d_NameHash_of_58 ?_
          refine lv_iadd hx hb d_NameHash_of_60 ?_
          refine hq_topi (x' := hq_hb t i sd (b + 1)) ((hq_hb_s t i sd b).symm) ?_
          refine lv_istore (nL := 6) (lv' := [(4, .int (hq_hb t i sd (b + 1))), (0, .ref ta), (1, .int (nI i)), (2, .int (nI j)), (5, .int (nI (i + 4 * b)))]) hx hb d_NameHash_of_61 hl (by decide) rfl (fun ls hl => ?_)
          refine lv_iinc (nL := 6) (k := 4) (v := nI (i + 4 * (b + 1))) (lv' := [(5, .int (nI (i + 4 * (b + 1)))), (4, .int (hq_hb t i sd (b + 1))), (0, .ref ta), (1, .int (nI i)), (2, .int (nI j))]) hx hb d_NameHash_of_63 hl rfl ((nI_add (i + 4 * b) 4).trans (by rw [show i + 4 * b + 4 = i + 4 * (b + 1) by omega])) (by decide) rfl (fun ls hl => ?_)
          refine lv_goto (tgt := 26) hx hb d_NameHash_of_66 rfl ?_
          exact ih _ (by omega) (b + 1) ls H locs rfl (by first | assumption | omega) (lv_sub hl [2, 3, 4, 1, 0] rfl) hP hD hS
    exact cut26 _ 0 ls H locs rfl (by first | assumption | omega) (lv_sub hl [2, 3, 4, 1, 0] rfl) hP hD hS
  · -- 8 not taken
    have c8 : (hq_areD t i j 9) = true := hq_zn.mp c8
    refine lv_aload_n hx hb d_NameHash_of_11 rfl (lv_at hl 0 rfl) ?_
    refine lv_iload_n hx hb d_NameHash_of_12 rfl (lv_at hl 1 rfl) ?_
    refine lv_iload_n hx hb d_NameHash_of_13 rfl (lv_at hl 2 rfl) ?_
    have hPc : va_P D hq_cl ([hq_ai ta (G 2) n t] ++ Z) H := hP
    have hDc : va_D A ([hq_ai ta (G 2) n t] ++ Z) := hD
    refine hq_iF (hq_rSN (As := [.ref ta, .int (nI i), .int (nI j)]) (rest := []) hx hb hml hown hts (c_H_digitsToInt l D G A Z ta n t i j (by first | assumption | omega) (by first | assumption | omega) (by first | assumption | omega)) yy_H_digitsToInt lk_NameHash_13 hA hK hN hS hPc hDc rfl hl.1 rfl (Nat.le_of_ble_eq_true rfl) d_NameHash_of_14 ⟨by decide, by decide⟩ ⟨by decide, by decide⟩) hS (fun H locs hP hD hS => ?_)
    have hP : va_P D hq_cl ([hq_ai ta (G 2) n t] ++ Z) H := hP
    have hD : va_D A ([hq_ai ta (G 2) n t] ++ Z) := hD
    refine lv_iload_n hx hb d_NameHash_of_17 rfl (lv_at hl 3 rfl) ?_
    refine lv_iadd hx hb d_NameHash_of_18 ?_
    exact hret ((hq_dec t i (j - i) 0) + sd) () H locs 19 ls d_NameHash_of_19 (by rw [hq_hash, if_pos c8]) hP hD hS
theorem d_Line_readTitle_0 : decode b_Line_readTitle 0 = .ok (.aload_n 0, 1) := by decide +kernel
theorem d_Line_readTitle_1 : decode b_Line_readTitle 1 = .ok (.bipush (32), 2) := by decide +kernel
theorem d_Line_readTitle_3 : decode b_Line_readTitle 3 = .ok (.putfield 25, 3) := by decide +kernel
theorem d_Line_readTitle_6 : decode b_Line_readTitle 6 = .ok (.aload_n 0, 1) := by decide +kernel
theorem d_Line_readTitle_7 : decode b_Line_readTitle 7 = .ok (.iconst 0, 1) := by decide +kernel
theorem d_Line_readTitle_8 : decode b_Line_readTitle 8 = .ok (.putfield 29, 3) := by decide +kernel
theorem d_Line_readTitle_11 : decode b_Line_readTitle 11 = .ok (.aload_n 0, 1) := by decide +kernel
theorem d_Line_readTitle_12 : decode b_Line_readTitle 12 = .ok (.bipush (100), 2) := by decide +kernel
theorem d_Line_readTitle_14 : decode b_Line_readTitle 14 = .ok (.putfield 32, 3) := by decide +kernel
theorem d_Line_readTitle_17 : decode b_Line_readTitle 17 = .ok (.iload_n 1, 1) := by decide +kernel
theorem d_Line_readTitle_18 : decode b_Line_readTitle 18 = .ok (.iload_n 2, 1) := by decide +kernel
theorem d_Line_readTitle_19 : decode b_Line_readTitle 19 = .ok (.if_icmp .ne (5), 3) := by decide +kernel
theorem d_Line_readTitle_22 : decode b_Line_readTitle 22 = .ok (.iconst 1, 1) := by decide +kernel
theorem d_Line_readTitle_23 : decode b_Line_readTitle 23 = .ok (.ireturn, 1) := by decide +kernel
theorem d_Line_readTitle_24 : decode b_Line_readTitle 24 = .ok (.aload_n 0, 1) := by decide +kernel
theorem d_Line_readTitle_25 : decode b_Line_readTitle 25 = .ok (.iload_n 1, 1) := by decide +kernel
theorem d_Line_readTitle_26 : decode b_Line_readTitle 26 = .ok (.iload_n 2, 1) := by decide +kernel
theorem d_Line_readTitle_27 : decode b_Line_readTitle 27 = .ok (.invokevirtual 84, 3) := by decide +kernel
theorem d_Line_readTitle_30 : decode b_Line_readTitle 30 = .ok (.ifCond .ne (5), 3) := by decide +kernel
theorem d_Line_readTitle_33 : decode b_Line_readTitle 33 = .ok (.iconst 0, 1) := by decide +kernel
theorem d_Line_readTitle_34 : decode b_Line_readTitle 34 = .ok (.ireturn, 1) := by decide +kernel
theorem d_Line_readTitle_35 : decode b_Line_readTitle 35 = .ok (.aload_n 0, 1) := by decide +kernel
theorem d_Line_readTitle_36 : decode b_Line_readTitle 36 = .ok (.aload_n 0, 1) := by decide +kernel
theorem d_Line_readTitle_37 : decode b_Line_readTitle 37 = .ok (.getfield 9, 3) := by decide +kernel
theorem d_Line_readTitle_40 : decode b_Line_readTitle 40 = .ok (.iload_n 1, 1) := by decide +kernel
theorem d_Line_readTitle_41 : decode b_Line_readTitle 41 = .ok (.caload, 1) := by decide +kernel
theorem d_Line_readTitle_42 : decode b_Line_readTitle 42 = .ok (.putfield 25, 3) := by decide +kernel
theorem d_Line_readTitle_45 : decode b_Line_readTitle 45 = .ok (.aload_n 0, 1) := by decide +kernel
theorem d_Line_readTitle_46 : decode b_Line_readTitle 46 = .ok (.aload_n 0, 1) := by decide +kernel
theorem d_Line_readTitle_47 : decode b_Line_readTitle 47 = .ok (.getfield 9, 3) := by decide +kernel
theorem d_Line_readTitle_50 : decode b_Line_readTitle 50 = .ok (.iload_n 1, 1) := by decide +kernel
theorem d_Line_readTitle_51 : decode b_Line_readTitle 51 = .ok (.aload_n 0, 1) := by decide +kernel
theorem d_Line_readTitle_52 : decode b_Line_readTitle 52 = .ok (.getfield 19, 3) := by decide +kernel
theorem d_Line_readTitle_55 : decode b_Line_readTitle 55 = .ok (.iconst 0, 1) := by decide +kernel
theorem d_Line_readTitle_56 : decode b_Line_readTitle 56 = .ok (.invokestatic 87, 3) := by decide +kernel
theorem d_Line_readTitle_59 : decode b_Line_readTitle 59 = .ok (.putfield 29, 3) := by decide +kernel
theorem d_Line_readTitle_62 : decode b_Line_readTitle 62 = .ok (.aload_n 0, 1) := by decide +kernel
theorem d_Line_readTitle_63 : decode b_Line_readTitle 63 = .ok (.aload_n 0, 1) := by decide +kernel
theorem d_Line_readTitle_64 : decode b_Line_readTitle 64 = .ok (.getfield 22, 3) := by decide +kernel
theorem d_Line_readTitle_67 : decode b_Line_readTitle 67 = .ok (.putfield 32, 3) := by decide +kernel
theorem d_Line_readTitle_70 : decode b_Line_readTitle 70 = .ok (.iconst 1, 1) := by decide +kernel
theorem d_Line_readTitle_71 : decode b_Line_readTitle 71 = .ok (.ireturn, 1) := by decide +kernel
def f_Line_readTitle (t : Nat → Int32) (i : Nat) (j : Nat) (ne : Int32) (pn : Int32) : Bool := if i = j then true else if (f_Line_readPart t i j) = true then true else false
def f_Line_readTitle_o1 (t : Nat → Int32) (i : Nat) (j : Nat) (ne : Int32) (pn : Int32) : Int32 := if i = j then ne else nI (hq_fnd t 58 i (j - i))
def f_Line_readTitle_o2 (t : Nat → Int32) (i : Nat) (j : Nat) (ne : Int32) (pn : Int32) : Int32 := if i = j then pn else f_Line_readPart_o2 t i j
def f_Line_readTitle_o3 (t : Nat → Int32) (i : Nat) (j : Nat) (ne : Int32) (pn : Int32) : Int32 := if i = j then 32 else if (f_Line_readPart t i j) = true then t i else 32
def f_Line_readTitle_o4 (t : Nat → Int32) (i : Nat) (j : Nat) (ne : Int32) (pn : Int32) : Int32 := if i = j then 0 else if (f_Line_readPart t i j) = true then hq_hash t i (hq_fnd t 58 i (j - i)) 0 else 0
def f_Line_readTitle_o5 (t : Nat → Int32) (i : Nat) (j : Nat) (ne : Int32) (pn : Int32) : Int32 := if i = j then 100 else if (f_Line_readPart t i j) = true then f_Line_readPart_o2 t i j else 100
set_option maxHeartbeats 4000000 in
set_option maxRecDepth 100000 in
theorem c_Line_readTitle (l : Launch) (D : va_G) (G : Nat → ClassId) (A : Nat → Prop) (Z : va_W) (h : Nat) (ta : Nat) (t : Nat → Int32) (len : Nat) (ne : Int32) (pn : Int32) (lt : Int32) (sd : Int32) (fc : Int32) (i : Nat) (j : Nat) (hlen : len ≤ 100) (hj : j ≤ len) (hi : i ≤ j) (ht : ∀ q, q < len → hq_ch (t q)) : hq_FI l D G A y_Line_readTitle b_Line_readTitle 3 .boolean 3 [.ref h, .int (nI i), .int (nI j)] ([hq_o2 h ta (nI len) ne pn lt sd fc, hq_ai ta (G 2) 100 t] ++ Z) (hq_z (f_Line_readTitle t i j ne pn)) ([hq_o2 h ta (nI len) (f_Line_readTitle_o1 t i j ne pn) (f_Line_readTitle_o2 t i j ne pn) (f_Line_readTitle_o3 t i j ne pn) (f_Line_readTitle_o4 t i j ne pn) (f_Line_readTitle_o5 t i j ne pn), hq_ai ta (G 2) 100 t] ++ Z) := by
  refine hq_bI (by decide) (Nat.le_of_ble_eq_true rfl) (fun r u h => by rw [h]; exact hq_znar _) ?_
  intro p e s m args below meth c Q hx hb hml hts hown hA hK hN hret ls H locs hl hP hD hS
  have hown : s.vm.findClass "HashedLearner$Line" = some m.cls := hown
  have hl : lv_has ls 3 [(0, .ref h), (1, .int (nI i)), (2, .int (nI j))] := hl
  refine lv_aload_n hx hb d_Line_readTitle_0 rfl (lv_at hl 0 rfl) ?_
  refine lv_bipush (v := 32) hx hb d_Line_readTitle_1 (by decide) ?_
  refine va_put (D := D) (ci := 2) (v := .int 32) (ty := .char) (C := R_Line) (T := F_Line) (N := 7) hx hb hts uw_Line t_Line t_Line_ok n_Line hown hK hP hD hS 0 rfl rfl 4 (by decide) (hts _ fl_Line_25) (fun _ h9 => h9) rfl (by decide +kernel) (by decide) (by decide) (Nat.le_of_ble_eq_true rfl) d_Line_readTitle_3 (fun H locs hP hD hS => ?_)
  have hP : va_P D hq_cl ([hq_o2 h ta (nI len) ne pn 32 sd fc, hq_ai ta (G 2) 100 t] ++ Z) H := hP
  have hD : va_D A ([hq_o2 h ta (nI len) ne pn 32 sd fc, hq_ai ta (G 2) 100 t] ++ Z) := hD
  refine lv_aload_n hx hb d_Line_readTitle_6 rfl (lv_at hl 0 rfl) ?_
  refine lv_iconst (v := 0) hx hb d_Line_readTitle_7 (by decide) ?_
  refine va_put (D := D) (ci := 2) (v := .int 0) (ty := .int) (C := R_Line) (T := F_Line) (N := 7) hx hb hts uw_Line t_Line t_Line_ok n_Line hown hK hP hD hS 0 rfl rfl 5 (by decide) (hts _ fl_Line_29) (fun _ h9 => h9) rfl (by decide +kernel) (rfl) (rfl) (Nat.le_of_ble_eq_true rfl) d_Line_readTitle_8 (fun H locs hP hD hS => ?_)
  have hP : va_P D hq_cl ([hq_o2 h ta (nI len) ne pn 32 0 fc, hq_ai ta (G 2) 100 t] ++ Z) H := hP
  have hD : va_D A ([hq_o2 h ta (nI len) ne pn 32 0 fc, hq_ai ta (G 2) 100 t] ++ Z) := hD
  refine lv_aload_n hx hb d_Line_readTitle_11 rfl (lv_at hl 0 rfl) ?_
  refine lv_bipush (v := 100) hx hb d_Line_readTitle_12 (by decide) ?_
  refine va_put (D := D) (ci := 2) (v := .int 100) (ty := .int) (C := R_Line) (T := F_Line) (N := 7) hx hb hts uw_Line t_Line t_Line_ok n_Line hown hK hP hD hS 0 rfl rfl 6 (by decide) (hts _ fl_Line_32) (fun _ h9 => h9) rfl (by decide +kernel) (rfl) (rfl) (Nat.le_of_ble_eq_true rfl) d_Line_readTitle_14 (fun H locs hP hD hS => ?_)
  have hP : va_P D hq_cl ([hq_o2 h ta (nI len) ne pn 32 0 100, hq_ai ta (G 2) 100 t] ++ Z) H := hP
  have hD : va_D A ([hq_o2 h ta (nI len) ne pn 32 0 100, hq_ai ta (G 2) 100 t] ++ Z) := hD
  refine lv_iload_n hx hb d_Line_readTitle_17 rfl (lv_at hl 1 rfl) ?_
  refine lv_iload_n hx hb d_Line_readTitle_18 rfl (lv_at hl 2 rfl) ?_
  refine lv_icmp_ne (tgt := 24) hx hb d_Line_readTitle_19 rfl (fun c19 => ?_) (fun c19 => ?_)
  · -- 19 taken
    have c19 : ¬ i = j := fun h => c19 ((nI_eq (a := i) (b := j) (by omega) (by omega)).mpr h)
    refine lv_aload_n hx hb d_Line_readTitle_24 rfl (lv_at hl 0 rfl) ?_
    refine lv_iload_n hx hb d_Line_readTitle_25 rfl (lv_at hl 1 rfl) ?_
    refine lv_iload_n hx hb d_Line_readTitle_26 rfl (lv_at hl 2 rfl) ?_
    have hPc : va_P D hq_cl ([hq_o2 h ta (nI len) ne pn 32 0 100, hq_ai ta (G 2) 100 t] ++ Z) H := hP
    have hDc : va_D A ([hq_o2 h ta (nI len) ne pn 32 0 100, hq_ai ta (G 2) 100 t] ++ Z) := hD
    refine hq_iF (hq_rV (As := [.int (nI i), .int (nI j)]) (rest := []) hx hb hml hown hts (c_Line_readPart l D G A Z h ta t len ne pn 32 0 100 i j (by first | assumption | omega) (by first | assumption | omega) (by first | assumption | omega)) yy_Line_readPart lk_Line_84 hA hK hN hS hPc hDc 0 2 rfl rfl rfl hl.1 rfl (Nat.le_of_ble_eq_true rfl) d_Line_readTitle_27 ⟨by decide, by decide⟩ ⟨by decide, by decide⟩) hS (fun H locs hP hD hS => ?_)
    have hP : va_P D hq_cl ([hq_o2 h ta (nI len) (nI (hq_fnd t 58 i (j - i))) (f_Line_readPart_o2 t i j) 32 0 100, hq_ai ta (G 2) 100 t] ++ Z) H := hP
    have hD : va_D A ([hq_o2 h ta (nI len) (nI (hq_fnd t 58 i (j - i))) (f_Line_readPart_o2 t i j) 32 0 100, hq_ai ta (G 2) 100 t] ++ Z) := hD
    have hp := hq_fnd_le t 58 (j - i) i
    refine lv_if_ne (tgt := 35) hx hb d_Line_readTitle_30 rfl (fun c30 => ?_) (fun c30 => ?_)
    · -- 30 taken
      have c30 : (f_Line_readPart t i j) = true := hq_zn.mp c30
      refine lv_aload_n hx hb d_Line_readTitle_35 rfl (lv_at hl 0 rfl) ?_
      refine lv_aload_n hx hb d_Line_readTitle_36 rfl (lv_at hl 0 rfl) ?_
      refine va_get (D := D) (ci := 2) (v := .ref ta) (C := R_Line) (T := F_Line) (N := 7) hx hb hts uw_Line hown hK hP 0 rfl rfl 0 (by decide) (hts _ fl_Line_9) (fun _ h9 => h9) rfl d_Line_readTitle_37 ?_
      refine lv_iload_n hx hb d_Line_readTitle_40 rfl (lv_at hl 1 rfl) ?_
      refine hq_cald (j := i) hx hb hK hP 1 rfl (by omega) (by omega) d_Line_readTitle_41 ?_
      refine va_put (D := D) (ci := 2) (v := .int (t i)) (ty := .char) (C := R_Line) (T := F_Line) (N := 7) hx hb hts uw_Line t_Line t_Line_ok n_Line hown hK hP hD hS 0 rfl rfl 4 (by decide) (hts _ fl_Line_25) (fun _ h9 => h9) rfl (by decide +kernel) (hq_ch_nar (ht i (by omega))) (hq_ch_fit (ht i (by omega))) (Nat.le_of_ble_eq_true rfl) d_Line_readTitle_42 (fun H locs hP hD hS => ?_)
      have hP : va_P D hq_cl ([hq_o2 h ta (nI len) (nI (hq_fnd t 58 i (j - i))) (f_Line_readPart_o2 t i j) (t i) 0 100, hq_ai ta (G 2) 100 t] ++ Z) H := hP
      have hD : va_D A ([hq_o2 h ta (nI len) (nI (hq_fnd t 58 i (j - i))) (f_Line_readPart_o2 t i j) (t i) 0 100, hq_ai ta (G 2) 100 t] ++ Z) := hD
      refine lv_aload_n hx hb d_Line_readTitle_45 rfl (lv_at hl 0 rfl) ?_
      refine lv_aload_n hx hb d_Line_readTitle_46 rfl (lv_at hl 0 rfl) ?_
      refine va_get (D := D) (ci := 2) (v := .ref ta) (C := R_Line) (T := F_Line) (N := 7) hx hb hts uw_Line hown hK hP 0 rfl rfl 0 (by decide) (hts _ fl_Line_9) (fun _ h9 => h9) rfl d_Line_readTitle_47 ?_
      refine lv_iload_n hx hb d_Line_readTitle_50 rfl (lv_at hl 1 rfl) ?_
      refine lv_aload_n hx hb d_Line_readTitle_51 rfl (lv_at hl 0 rfl) ?_
      refine va_get (D := D) (ci := 2) (v := .int (nI (hq_fnd t 58 i (j - i)))) (C := R_Line) (T := F_Line) (N := 7) hx hb hts uw_Line hown hK hP 0 rfl rfl 2 (by decide) (hts _ fl_Line_19) (fun _ h9 => h9) rfl d_Line_readTitle_52 ?_
      refine lv_iconst (v := 0) hx hb d_Line_readTitle_55 (by decide) ?_
      have hPc : va_P D hq_cl ([hq_ai ta (G 2) 100 t] ++ ([hq_o2 h ta (nI len) (nI (hq_fnd t 58 i (j - i))) (f_Line_readPart_o2 t i j) (t i) 0 100] ++ Z)) H := va_P.part (cx := [hq_ai ta (G 2) 100 t, hq_o2 h ta (nI len) (nI (hq_fnd t 58 i (j - i))) (f_Line_readPart_o2 t i j) (t i) 0 100]) hP [1, 0] rfl
      have hDc : va_D A ([hq_ai ta (G 2) 100 t] ++ ([hq_o2 h ta (nI len) (nI (hq_fnd t 58 i (j - i))) (f_Line_readPart_o2 t i j) (t i) 0 100] ++ Z)) := va_D.part (cx := [hq_ai ta (G 2) 100 t, hq_o2 h ta (nI len) (nI (hq_fnd t 58 i (j - i))) (f_Line_readPart_o2 t i j) (t i) 0 100]) hD [1, 0] (by decide) rfl
      refine hq_iF (hq_rS (As := [.ref ta, .int (nI i), .int (nI (hq_fnd t 58 i (j - i))), .int 0]) (rest := [.ref h]) hx hb hml hown hts (c_NameHash_of l D G A ([hq_o2 h ta (nI len) (nI (hq_fnd t 58 i (j - i))) (f_Line_readPart_o2 t i j) (t i) 0 100] ++ Z) ta 100 t i (hq_fnd t 58 i (j - i)) 0 (by first | assumption | omega) (by first | assumption | omega) (by first | assumption | omega)) yy_NameHash_of lk_Line_87 hA hK hN hS hPc hDc rfl hl.1 rfl (Nat.le_of_ble_eq_true rfl) d_Line_readTitle_56 ⟨by decide, by decide⟩ ⟨by decide, by decide⟩) hS (fun H locs hP hD hS => ?_)
      have hP : va_P D hq_cl ([hq_ai ta (G 2) 100 t, hq_o2 h ta (nI len) (nI (hq_fnd t 58 i (j - i))) (f_Line_readPart_o2 t i j) (t i) 0 100] ++ Z) H := hP
      have hD : va_D A ([hq_ai ta (G 2) 100 t, hq_o2 h ta (nI len) (nI (hq_fnd t 58 i (j - i))) (f_Line_readPart_o2 t i j) (t i) 0 100] ++ Z) := hD
      refine va_put (D := D) (ci := 2) (v := .int (hq_hash t i (hq_fnd t 58 i (j - i)) 0)) (ty := .int) (C := R_Line) (T := F_Line) (N := 7) hx hb hts uw_Line t_Line t_Line_ok n_Line hown hK hP hD hS 1 rfl rfl 5 (by decide) (hts _ fl_Line_29) (fun _ h9 => h9) rfl (by decide +kernel) (rfl) (rfl) (Nat.le_of_ble_eq_true rfl) d_Line_readTitle_59 (fun H locs hP hD hS => ?_)
      have hP : va_P D hq_cl ([hq_ai ta (G 2) 100 t, hq_o2 h ta (nI len) (nI (hq_fnd t 58 i (j - i))) (f_Line_readPart_o2 t i j) (t i) (hq_hash t i (hq_fnd t 58 i (j - i)) 0) 100] ++ Z) H := hP
      have hD : va_D A ([hq_ai ta (G 2) 100 t, hq_o2 h ta (nI len) (nI (hq_fnd t 58 i (j - i))) (f_Line_readPart_o2 t i j) (t i) (hq_hash t i (hq_fnd t 58 i (j - i)) 0) 100] ++ Z) := hD
      refine lv_aload_n hx hb d_Line_readTitle_62 rfl (lv_at hl 0 rfl) ?_
      refine lv_aload_n hx hb d_Line_readTitle_63 rfl (lv_at hl 0 rfl) ?_
      refine va_get (D := D) (ci := 2) (v := .int (f_Line_readPart_o2 t i j)) (C := R_Line) (T := F_Line) (N := 7) hx hb hts uw_Line hown hK hP 1 rfl rfl 3 (by decide) (hts _ fl_Line_22) (fun _ h9 => h9) rfl d_Line_readTitle_64 ?_
      refine va_put (D := D) (ci := 2) (v := .int (f_Line_readPart_o2 t i j)) (ty := .int) (C := R_Line) (T := F_Line) (N := 7) hx hb hts uw_Line t_Line t_Line_ok n_Line hown hK hP hD hS 1 rfl rfl 6 (by decide) (hts _ fl_Line_32) (fun _ h9 => h9) rfl (by decide +kernel) (rfl) (rfl) (Nat.le_of_ble_eq_true rfl) d_Line_readTitle_67 (fun H locs hP hD hS => ?_)
      have hP : va_P D hq_cl ([hq_ai ta (G 2) 100 t, hq_o2 h ta (nI len) (nI (hq_fnd t 58 i (j - i))) (f_Line_readPart_o2 t i j) (t i) (hq_hash t i (hq_fnd t 58 i (j - i)) 0) (f_Line_readPart_o2 t i j)] ++ Z) H := hP
      have hD : va_D A ([hq_ai ta (G 2) 100 t, hq_o2 h ta (nI len) (nI (hq_fnd t 58 i (j - i))) (f_Line_readPart_o2 t i j) (t i) (hq_hash t i (hq_fnd t 58 i (j - i)) 0) (f_Line_readPart_o2 t i j)] ++ Z) := hD
      refine lv_iconst (v := 1) hx hb d_Line_readTitle_70 (by decide) ?_
      have hP := va_P.part (cx := [hq_o2 h ta (nI len) (nI (hq_fnd t 58 i (j - i))) (f_Line_readPart_o2 t i j) (t i) (hq_hash t i (hq_fnd t 58 i (j - i)) 0) (f_Line_readPart_o2 t i j), hq_ai ta (G 2) 100 t]) hP [1, 0] rfl
      have hD := va_D.part (cx := [hq_o2 h ta (nI len) (nI (hq_fnd t 58 i (j - i))) (f_Line_readPart_o2 t i j) (t i) (hq_hash t i (hq_fnd t 58 i (j - i)) 0) (f_Line_readPart_o2 t i j), hq_ai ta (G 2) 100 t]) hD [1, 0] (by decide) rfl
      have hP : va_P D hq_cl ([hq_o2 h ta (nI len) (f_Line_readTitle_o1 t i j ne pn) (f_Line_readTitle_o2 t i j ne pn) (f_Line_readTitle_o3 t i j ne pn) (f_Line_readTitle_o4 t i j ne pn) (f_Line_readTitle_o5 t i j ne pn), hq_ai ta (G 2) 100 t] ++ Z) H := by rw [show f_Line_readTitle_o1 t i j ne pn = nI (hq_fnd t 58 i (j - i)) by (rw [f_Line_readTitle_o1, if_neg c19] <;> rfl), show f_Line_readTitle_o2 t i j ne pn = f_Line_readPart_o2 t i j by (rw [f_Line_readTitle_o2, if_neg c19] <;> rfl), show f_Line_readTitle_o3 t i j ne pn = t i by (rw [f_Line_readTitle_o3, if_neg c19, if_pos c30] <;> rfl), show f_Line_readTitle_o4 t i j ne pn = hq_hash t i (hq_fnd t 58 i (j - i)) 0 by (rw [f_Line_readTitle_o4, if_neg c19, if_pos c30] <;> rfl), show f_Line_readTitle_o5 t i j ne pn = f_Line_readPart_o2 t i j by (rw [f_Line_readTitle_o5, if_neg c19, if_pos c30] <;> rfl)]; exact hP
      have hD : va_D A ([hq_o2 h ta (nI len) (f_Line_readTitle_o1 t i j ne pn) (f_Line_readTitle_o2 t i j ne pn) (f_Line_readTitle_o3 t i j ne pn) (f_Line_readTitle_o4 t i j ne pn) (f_Line_readTitle_o5 t i j ne pn), hq_ai ta (G 2) 100 t] ++ Z) := by rw [show f_Line_readTitle_o1 t i j ne pn = nI (hq_fnd t 58 i (j - i)) by (rw [f_Line_readTitle_o1, if_neg c19] <;> rfl), show f_Line_readTitle_o2 t i j ne pn = f_Line_readPart_o2 t i j by (rw [f_Line_readTitle_o2, if_neg c19] <;> rfl), show f_Line_readTitle_o3 t i j ne pn = t i by (rw [f_Line_readTitle_o3, if_neg c19, if_pos c30] <;> rfl), show f_Line_readTitle_o4 t i j ne pn = hq_hash t i (hq_fnd t 58 i (j - i)) 0 by (rw [f_Line_readTitle_o4, if_neg c19, if_pos c30] <;> rfl), show f_Line_readTitle_o5 t i j ne pn = f_Line_readPart_o2 t i j by (rw [f_Line_readTitle_o5, if_neg c19, if_pos c30] <;> rfl)]; exact hD
      exact hret 1 () H locs 71 ls d_Line_readTitle_71 (by rw [f_Line_readTitle, if_neg c19, if_pos c30] <;> rfl) hP hD hS
    · -- 30 not taken
      have c30 : ¬ (f_Line_readPart t i j) = true := by rw [hq_z0.mp c30]; decide
      refine lv_iconst (v := 0) hx hb d_Line_readTitle_33 (by decide) ?_
      have hP : va_P D hq_cl ([hq_o2 h ta (nI len) (f_Line_readTitle_o1 t i j ne pn) (f_Line_readTitle_o2 t i j ne pn) (f_Line_readTitle_o3 t i j ne pn) (f_Line_readTitle_o4 t i j ne pn) (f_Line_readTitle_o5 t i j ne pn), hq_ai ta (G 2) 100 t] ++ Z) H := by rw [show f_Line_readTitle_o1 t i j ne pn = nI (hq_fnd t 58 i (j - i)) by (rw [f_Line_readTitle_o1, if_neg c19] <;> rfl), show f_Line_readTitle_o2 t i j ne pn = f_Line_readPart_o2 t i j by (rw [f_Line_readTitle_o2, if_neg c19] <;> rfl), show f_Line_readTitle_o3 t i j ne pn = 32 by (rw [f_Line_readTitle_o3, if_neg c19, if_neg c30] <;> rfl), show f_Line_readTitle_o4 t i j ne pn = 0 by (rw [f_Line_readTitle_o4, if_neg c19, if_neg c30] <;> rfl), show f_Line_readTitle_o5 t i j ne pn = 100 by (rw [f_Line_readTitle_o5, if_neg c19, if_neg c30] <;> rfl)]; exact hP
      have hD : va_D A ([hq_o2 h ta (nI len) (f_Line_readTitle_o1 t i j ne pn) (f_Line_readTitle_o2 t i j ne pn) (f_Line_readTitle_o3 t i j ne pn) (f_Line_readTitle_o4 t i j ne pn) (f_Line_readTitle_o5 t i j ne pn), hq_ai ta (G 2) 100 t] ++ Z) := by rw [show f_Line_readTitle_o1 t i j ne pn = nI (hq_fnd t 58 i (j - i)) by (rw [f_Line_readTitle_o1, if_neg c19] <;> rfl), show f_Line_readTitle_o2 t i j ne pn = f_Line_readPart_o2 t i j by (rw [f_Line_readTitle_o2, if_neg c19] <;> rfl), show f_Line_readTitle_o3 t i j ne pn = 32 by (rw [f_Line_readTitle_o3, if_neg c19, if_neg c30] <;> rfl), show f_Line_readTitle_o4 t i j ne pn = 0 by (rw [f_Line_readTitle_o4, if_neg c19, if_neg c30] <;> rfl), show f_Line_readTitle_o5 t i j ne pn = 100 by (rw [f_Line_readTitle_o5, if_neg c19, if_neg c30] <;> rfl)]; exact hD
      exact hret 0 () H locs 34 ls d_Line_readTitle_34 (by rw [f_Line_readTitle, if_neg c19, if_neg c30] <;> rfl) hP hD hS
  · -- 19 not taken
    have c19 : i = j := (nI_eq (a := i) (b := j) (by omega) (by omega)).mp c19
    refine lv_iconst (v := 1) hx hb d_Line_readTitle_22 (by decide) ?_
    have hP : va_P D hq_cl ([hq_o2 h ta (nI len) (f_Line_readTitle_o1 t i j ne pn) (f_Line_readTitle_o2 t i j ne pn) (f_Line_readTitle_o3 t i j ne pn) (f_Line_readTitle_o4 t i j ne pn) (f_Line_readTitle_o5 t i j ne pn), hq_ai ta (G 2) 100 t] ++ Z) H := by rw [show f_Line_readTitle_o1 t i j ne pn = ne by (rw [f_Line_readTitle_o1, if_pos c19] <;> rfl), show f_Line_readTitle_o2 t i j ne pn = pn by (rw [f_Line_readTitle_o2, if_pos c19] <;> rfl), show f_Line_readTitle_o3 t i j ne pn = 32 by (rw [f_Line_readTitle_o3, if_pos c19] <;> rfl), show f_Line_readTitle_o4 t i j ne pn = 0 by (rw [f_Line_readTitle_o4, if_pos c19] <;> rfl), show f_Line_readTitle_o5 t i j ne pn = 100 by (rw [f_Line_readTitle_o5, if_pos c19] <;> rfl)]; exact hP
    have hD : va_D A ([hq_o2 h ta (nI len) (f_Line_readTitle_o1 t i j ne pn) (f_Line_readTitle_o2 t i j ne pn) (f_Line_readTitle_o3 t i j ne pn) (f_Line_readTitle_o4 t i j ne pn) (f_Line_readTitle_o5 t i j ne pn), hq_ai ta (G 2) 100 t] ++ Z) := by rw [show f_Line_readTitle_o1 t i j ne pn = ne by (rw [f_Line_readTitle_o1, if_pos c19] <;> rfl), show f_Line_readTitle_o2 t i j ne pn = pn by (rw [f_Line_readTitle_o2, if_pos c19] <;> rfl), show f_Line_readTitle_o3 t i j ne pn = 32 by (rw [f_Line_readTitle_o3, if_pos c19] <;> rfl), show f_Line_readTitle_o4 t i j ne pn = 0 by (rw [f_Line_readTitle_o4, if_pos c19] <;> rfl), show f_Line_readTitle_o5 t i j ne pn = 100 by (rw [f_Line_readTitle_o5, if_pos c19] <;> rfl)]; exact hD
    exact hret 1 () H locs 23 ls d_Line_readTitle_23 (by rw [f_Line_readTitle, if_pos c19] <;> rfl) hP hD hS
theorem d_Line_readFeature_0 : decode b_Line_readFeature 0 = .ok (.aload_n 0, 1) := by decide +kernel
theorem d_Line_readFeature_1 : decode b_Line_readFeature 1 = .ok (.iload_n 1, 1) := by decide +kernel
theorem d_Line_readFeature_2 : decode b_Line_readFeature 2 = .ok (.iload_n 2, 1) := by decide +kernel
theorem d_Line_readFeature_3 : decode b_Line_readFeature 3 = .ok (.invokevirtual 84, 3) := by decide +kernel
theorem d_Line_readFeature_6 : decode b_Line_readFeature 6 = .ok (.ifCond .ne (5), 3) := by decide +kernel
theorem d_Line_readFeature_9 : decode b_Line_readFeature 9 = .ok (.iconst 0, 1) := by decide +kernel
theorem d_Line_readFeature_10 : decode b_Line_readFeature 10 = .ok (.ireturn, 1) := by decide +kernel
theorem d_Line_readFeature_11 : decode b_Line_readFeature 11 = .ok (.aload_n 0, 1) := by decide +kernel
theorem d_Line_readFeature_12 : decode b_Line_readFeature 12 = .ok (.getfield 22, 3) := by decide +kernel
theorem d_Line_readFeature_15 : decode b_Line_readFeature 15 = .ok (.i2l, 1) := by decide +kernel
theorem d_Line_readFeature_16 : decode b_Line_readFeature 16 = .ok (.aload_n 0, 1) := by decide +kernel
theorem d_Line_readFeature_17 : decode b_Line_readFeature 17 = .ok (.getfield 32, 3) := by decide +kernel
theorem d_Line_readFeature_20 : decode b_Line_readFeature 20 = .ok (.i2l, 1) := by decide +kernel
theorem d_Line_readFeature_21 : decode b_Line_readFeature 21 = .ok (.lmul, 1) := by decide +kernel
theorem d_Line_readFeature_22 : decode b_Line_readFeature 22 = .ok (.ldc2_w 93, 3) := by decide +kernel
theorem d_Line_readFeature_25 : decode b_Line_readFeature 25 = .ok (.ldiv, 1) := by decide +kernel
theorem d_Line_readFeature_26 : decode b_Line_readFeature 26 = .ok (.ldc2_w 95, 3) := by decide +kernel
theorem d_Line_readFeature_29 : decode b_Line_readFeature 29 = .ok (.invokestatic 97, 3) := by decide +kernel
theorem d_Line_readFeature_32 : decode b_Line_readFeature 32 = .ok (.lstore 4, 2) := by decide +kernel
theorem d_Line_readFeature_34 : decode b_Line_readFeature 34 = .ok (.aload_n 3, 1) := by decide +kernel
theorem d_Line_readFeature_35 : decode b_Line_readFeature 35 = .ok (.aload_n 0, 1) := by decide +kernel
theorem d_Line_readFeature_36 : decode b_Line_readFeature 36 = .ok (.getfield 25, 3) := by decide +kernel
theorem d_Line_readFeature_39 : decode b_Line_readFeature 39 = .ok (.aload_n 0, 1) := by decide +kernel
theorem d_Line_readFeature_40 : decode b_Line_readFeature 40 = .ok (.getfield 9, 3) := by decide +kernel
theorem d_Line_readFeature_43 : decode b_Line_readFeature 43 = .ok (.iload_n 1, 1) := by decide +kernel
theorem d_Line_readFeature_44 : decode b_Line_readFeature 44 = .ok (.aload_n 0, 1) := by decide +kernel
theorem d_Line_readFeature_45 : decode b_Line_readFeature 45 = .ok (.getfield 19, 3) := by decide +kernel
theorem d_Line_readFeature_48 : decode b_Line_readFeature 48 = .ok (.aload_n 0, 1) := by decide +kernel
theorem d_Line_readFeature_49 : decode b_Line_readFeature 49 = .ok (.getfield 29, 3) := by decide +kernel
theorem d_Line_readFeature_52 : decode b_Line_readFeature 52 = .ok (.invokestatic 87, 3) := by decide +kernel
theorem d_Line_readFeature_55 : decode b_Line_readFeature 55 = .ok (.lload 4, 2) := by decide +kernel
theorem d_Line_readFeature_57 : decode b_Line_readFeature 57 = .ok (.l2i, 1) := by decide +kernel
theorem d_Line_readFeature_58 : decode b_Line_readFeature 58 = .ok (.invokevirtual 101, 3) := by decide +kernel
theorem d_Line_readFeature_61 : decode b_Line_readFeature 61 = .ok (.ireturn, 1) := by decide +kernel
def f_Line_readFeature (t : Nat → Int32) (i : Nat) (j : Nat) (lt : Int32) (sd : Int32) (fc : Int32) (fh : Nat → Int32) (fv : Nat → Int32) (fl : Nat → Int32) (k : Nat) : Bool := if (f_Line_readPart t i j) = true then (f_Example_addFeature fh fv fl k lt (hq_hash t i (hq_fnd t 58 i (j - i)) sd) (Int64.toInt32 (f_H_clip (((Int32.toInt64 (f_Line_readPart_o2 t i j)) * (Int32.toInt64 fc)) / 100) 99999))) else false
def f_Line_readFeature_o3 (t : Nat → Int32) (i : Nat) (j : Nat) (lt : Int32) (sd : Int32) (fc : Int32) (fh : Nat → Int32) (fv : Nat → Int32) (fl : Nat → Int32) (k : Nat) : Nat := if (f_Line_readPart t i j) = true then f_Example_addFeature_o1 fh fv fl k lt (hq_hash t i (hq_fnd t 58 i (j - i)) sd) (Int64.toInt32 (f_H_clip (((Int32.toInt64 (f_Line_readPart_o2 t i j)) * (Int32.toInt64 fc)) / 100) 99999)) else k
def f_Line_readFeature_o4 (t : Nat → Int32) (i : Nat) (j : Nat) (lt : Int32) (sd : Int32) (fc : Int32) (fh : Nat → Int32) (fv : Nat → Int32) (fl : Nat → Int32) (k : Nat) : Nat → Int32 := if (f_Line_readPart t i j) = true then f_Example_addFeature_o2 fh fv fl k lt (hq_hash t i (hq_fnd t 58 i (j - i)) sd) (Int64.toInt32 (f_H_clip (((Int32.toInt64 (f_Line_readPart_o2 t i j)) * (Int32.toInt64 fc)) / 100) 99999)) else fh
def f_Line_readFeature_o5 (t : Nat → Int32) (i : Nat) (j : Nat) (lt : Int32) (sd : Int32) (fc : Int32) (fh : Nat → Int32) (fv : Nat → Int32) (fl : Nat → Int32) (k : Nat) : Nat → Int32 := if (f_Line_readPart t i j) = true then f_Example_addFeature_o3 fh fv fl k lt (hq_hash t i (hq_fnd t 58 i (j - i)) sd) (Int64.toInt32 (f_H_clip (((Int32.toInt64 (f_Line_readPart_o2 t i j)) * (Int32.toInt64 fc)) / 100) 99999)) else fv
def f_Line_readFeature_o6 (t : Nat → Int32) (i : Nat) (j : Nat) (lt : Int32) (sd : Int32) (fc : Int32) (fh : Nat → Int32) (fv : Nat → Int32) (fl : Nat → Int32) (k : Nat) : Nat → Int32 := if (f_Line_readPart t i j) = true then f_Example_addFeature_o4 fh fv fl k lt (hq_hash t i (hq_fnd t 58 i (j - i)) sd) (Int64.toInt32 (f_H_clip (((Int32.toInt64 (f_Line_readPart_o2 t i j)) * (Int32.toInt64 fc)) / 100) 99999)) else fl
set_option maxHeartbeats 4000000 in
set_option maxRecDepth 100000 in
theorem c_Line_readFeature (l : Launch) (D : va_G) (G : Nat → ClassId) (A : Nat → Prop) (Z : va_W) (h : Nat) (ta : Nat) (t : Nat → Int32) (len : Nat) (ne : Int32) (pn : Int32) (lt : Int32) (sd : Int32) (fc : Int32) (x : Nat) (xa : Nat) (xb : Nat) (xc : Nat) (fh : Nat → Int32) (fv : Nat → Int32) (fl : Nat → Int32) (k : Nat) (lab : Bool) (lb : Int32) (im : Int32) (i : Nat) (j : Nat) (hlen : len ≤ 100) (hj : j ≤ len) (hi : i ≤ j) (hlt : hq_ch lt) (hk : k ≤ 12) : hq_FI l D G A y_Line_readFeature b_Line_readFeature 6 .boolean 3 [.ref h, .int (nI i), .int (nI j), .ref x] ([hq_o2 h ta (nI len) ne pn lt sd fc, hq_ai ta (G 2) 100 t, hq_o1 x xa xb xc (nI k) (hq_z lab) lb im, hq_ai xa (G 0) 12 fh, hq_ai xb (G 0) 12 fv, hq_ai xc (G 2) 12 fl] ++ Z) (hq_z (f_Line_readFeature t i j lt sd fc fh fv fl k)) ([hq_o2 h ta (nI len) (nI (hq_fnd t 58 i (j - i))) (f_Line_readPart_o2 t i j) lt sd fc, hq_ai ta (G 2) 100 t, hq_o1 x xa xb xc (nI (f_Line_readFeature_o3 t i j lt sd fc fh fv fl k)) (hq_z lab) lb im, hq_ai xa (G 0) 12 (f_Line_readFeature_o4 t i j lt sd fc fh fv fl k), hq_ai xb (G 0) 12 (f_Line_readFeature_o5 t i j lt sd fc fh fv fl k), hq_ai xc (G 2) 12 (f_Line_readFeature_o6 t i j lt sd fc fh fv fl k)] ++ Z) := by
  refine hq_bI (by decide) (Nat.le_of_ble_eq_true rfl) (fun r u h => by rw [h]; exact hq_znar _) ?_
  intro p e s m args below meth c Q hx hb hml hts hown hA hK hN hret ls H locs hl hP hD hS
  have hown : s.vm.findClass "HashedLearner$Line" = some m.cls := hown
  have hl : lv_has ls 6 [(0, .ref h), (1, .int (nI i)), (2, .int (nI j)), (3, .ref x)] := hl
  refine lv_aload_n hx hb d_Line_readFeature_0 rfl (lv_at hl 0 rfl) ?_
  refine lv_iload_n hx hb d_Line_readFeature_1 rfl (lv_at hl 1 rfl) ?_
  refine lv_iload_n hx hb d_Line_readFeature_2 rfl (lv_at hl 2 rfl) ?_
  have hPc : va_P D hq_cl ([hq_o2 h ta (nI len) ne pn lt sd fc, hq_ai ta (G 2) 100 t] ++ ([hq_o1 x xa xb xc (nI k) (hq_z lab) lb im, hq_ai xa (G 0) 12 fh, hq_ai xb (G 0) 12 fv, hq_ai xc (G 2) 12 fl] ++ Z)) H := hP
  have hDc : va_D A ([hq_o2 h ta (nI len) ne pn lt sd fc, hq_ai ta (G 2) 100 t] ++ ([hq_o1 x xa xb xc (nI k) (hq_z lab) lb im, hq_ai xa (G 0) 12 fh, hq_ai xb (G 0) 12 fv, hq_ai xc (G 2) 12 fl] ++ Z)) := hD
  refine hq_iF (hq_rV (As := [.int (nI i), .int (nI j)]) (rest := []) hx hb hml hown hts (c_Line_readPart l D G A ([hq_o1 x xa xb xc (nI k) (hq_z lab) lb im, hq_ai xa (G 0) 12 fh, hq_ai xb (G 0) 12 fv, hq_ai xc (G 2) 12 fl] ++ Z) h ta t len ne pn lt sd fc i j (by first | assumption | omega) (by first | assumption | omega) (by first | assumption | omega)) yy_Line_readPart lk_Line_84 hA hK hN hS hPc hDc 0 2 rfl rfl rfl hl.1 rfl (Nat.le_of_ble_eq_true rfl) d_Line_readFeature_3 ⟨by decide, by decide⟩ ⟨by decide, by decide⟩) hS (fun H locs hP hD hS => ?_)
  have hP : va_P D hq_cl ([hq_o2 h ta (nI len) (nI (hq_fnd t 58 i (j - i))) (f_Line_readPart_o2 t i j) lt sd fc, hq_ai ta (G 2) 100 t, hq_o1 x xa xb xc (nI k) (hq_z lab) lb im, hq_ai xa (G 0) 12 fh, hq_ai xb (G 0) 12 fv, hq_ai xc (G 2) 12 fl] ++ Z) H := hP
  have hD : va_D A ([hq_o2 h ta (nI len) (nI (hq_fnd t 58 i (j - i))) (f_Line_readPart_o2 t i j) lt sd fc, hq_ai ta (G 2) 100 t, hq_o1 x xa xb xc (nI k) (hq_z lab) lb im, hq_ai xa (G 0) 12 fh, hq_ai xb (G 0) 12 fv, hq_ai xc (G 2) 12 fl] ++ Z) := hD
  have hp := hq_fnd_le t 58 (j - i) i
  refine lv_if_ne (tgt := 11) hx hb d_Line_readFeature_6 rfl (fun c6 => ?_) (fun c6 => ?_)
  · -- 6 taken
    have c6 : (f_Line_readPart t i j) = true := hq_zn.mp c6
    refine lv_aload_n hx hb d_Line_readFeature_11 rfl (lv_at hl 0 rfl) ?_
    refine va_get (D := D) (ci := 2) (v := .int (f_Line_readPart_o2 t i j)) (C := R_Line) (T := F_Line) (N := 7) hx hb hts uw_Line hown hK hP 0 rfl rfl 3 (by decide) (hts _ fl_Line_22) (fun _ h9 => h9) rfl d_Line_readFeature_12 ?_
    refine lv_i2l (v := Int32.toInt64 (f_Line_readPart_o2 t i j)) hx hb d_Line_readFeature_15 rfl ?_
    refine lv_aload_n hx hb d_Line_readFeature_16 rfl (lv_at hl 0 rfl) ?_
    refine va_get (D := D) (ci := 2) (v := .int fc) (C := R_Line) (T := F_Line) (N := 7) hx hb hts uw_Line hown hK hP 0 rfl rfl 6 (by decide) (hts _ fl_Line_32) (fun _ h9 => h9) rfl d_Line_readFeature_17 ?_
    refine lv_i2l (v := Int32.toInt64 fc) hx hb d_Line_readFeature_20 rfl ?_
    refine lv_lmul hx hb d_Line_readFeature_21 ?_
    refine lv_ldc2 (v := 100) hx hb hown (hts _ kl_Line_93) d_Line_readFeature_22 ?_
    refine lv_ldiv hx hb d_Line_readFeature_25 (by decide) ?_
    refine lv_ldc2 (v := 99999) hx hb hown (hts _ kl_Line_95) d_Line_readFeature_26 ?_
    have hPc : va_P D hq_cl ([] ++ ([hq_o2 h ta (nI len) (nI (hq_fnd t 58 i (j - i))) (f_Line_readPart_o2 t i j) lt sd fc, hq_ai ta (G 2) 100 t, hq_o1 x xa xb xc (nI k) (hq_z lab) lb im, hq_ai xa (G 0) 12 fh, hq_ai xb (G 0) 12 fv, hq_ai xc (G 2) 12 fl] ++ Z)) H := hP
    have hDc : va_D A ([] ++ ([hq_o2 h ta (nI len) (nI (hq_fnd t 58 i (j - i))) (f_Line_readPart_o2 t i j) lt sd fc, hq_ai ta (G 2) 100 t, hq_o1 x xa xb xc (nI k) (hq_z lab) lb im, hq_ai xa (G 0) 12 fh, hq_ai xb (G 0) 12 fv, hq_ai xc (G 2) 12 fl] ++ Z)) := hD
    refine hq_lF (hq_rSN (As := [.long (((Int32.toInt64 (f_Line_readPart_o2 t i j)) * (Int32.toInt64 fc)) / 100), .long 99999]) (rest := []) hx hb hml hown hts (c_H_clip l D G A ([hq_o2 h ta (nI len) (nI (hq_fnd t 58 i (j - i))) (f_Line_readPart_o2 t i j) lt sd fc, hq_ai ta (G 2) 100 t, hq_o1 x xa xb xc (nI k) (hq_z lab) lb im, hq_ai xa (G 0) 12 fh, hq_ai xb (G 0) 12 fv, hq_ai xc (G 2) 12 fl] ++ Z) (((Int32.toInt64 (f_Line_readPart_o2 t i j)) * (Int32.toInt64 fc)) / 100) 99999) yy_H_clip lk_Line_97 hA hK hN hS hPc hDc rfl hl.1 rfl (Nat.le_of_ble_eq_true rfl) d_Line_readFeature_29 ⟨by decide, by decide⟩ ⟨by decide, by decide⟩) hS (fun H locs hP hD hS => ?_)
    have hP : va_P D hq_cl ([hq_o2 h ta (nI len) (nI (hq_fnd t 58 i (j - i))) (f_Line_readPart_o2 t i j) lt sd fc, hq_ai ta (G 2) 100 t, hq_o1 x xa xb xc (nI k) (hq_z lab) lb im, hq_ai xa (G 0) 12 fh, hq_ai xb (G 0) 12 fv, hq_ai xc (G 2) 12 fl] ++ Z) H := hP
    have hD : va_D A ([hq_o2 h ta (nI len) (nI (hq_fnd t 58 i (j - i))) (f_Line_readPart_o2 t i j) lt sd fc, hq_ai ta (G 2) 100 t, hq_o1 x xa xb xc (nI k) (hq_z lab) lb im, hq_ai xa (G 0) 12 fh, hq_ai xb (G 0) 12 fv, hq_ai xc (G 2) 12 fl] ++ Z) := hD
    refine lv_lstore (nL := 6) (lv' := [(4, .long (f_H_clip (((Int32.toInt64 (f_Line_readPart_o2 t i j)) * (Int32.toInt64 fc)) / 100) 99999)), (0, .ref h), (1, .int (nI i)), (2, .int (nI j)), (3, .ref x)]) hx hb d_Line_readFeature_32 hl (by decide) rfl (fun ls hl => ?_)
    refine lv_aload_n hx hb d_Line_readFeature_34 rfl (lv_at hl 4 rfl) ?_
    refine lv_aload_n hx hb d_Line_readFeature_35 rfl (lv_at hl 1 rfl) ?_
    refine va_get (D := D) (ci := 2) (v := .int lt) (C := R_Line) (T := F_Line) (N := 7) hx hb hts uw_Line hown hK hP 0 rfl rfl 4 (by decide) (hts _ fl_Line_25) (fun _ h9 => h9) rfl d_Line_readFeature_36 ?_
    refine lv_aload_n hx hb d_Line_readFeature_39 rfl (lv_at hl 1 rfl) ?_
    refine va_get (D := D) (ci := 2) (v := .ref ta) (C := R_Line) (T := F_Line) (N := 7) hx hb hts uw_Line hown hK hP 0 rfl rfl 0 (by decide) (hts _ fl_Line_9) (fun _ h9 => h9) rfl d_Line_readFeature_40 ?_
    refine lv_iload_n hx hb d_Line_readFeature_43 rfl (lv_at hl 2 rfl) ?_
    refine lv_aload_n hx hb d_Line_readFeature_44 rfl (lv_at hl 1 rfl) ?_
    refine va_get (D := D) (ci := 2) (v := .int (nI (hq_fnd t 58 i (j - i)))) (C := R_Line) (T := F_Line) (N := 7) hx hb hts uw_Line hown hK hP 0 rfl rfl 2 (by decide) (hts _ fl_Line_19) (fun _ h9 => h9) rfl d_Line_readFeature_45 ?_
    refine lv_aload_n hx hb d_Line_readFeature_48 rfl (lv_at hl 1 rfl) ?_
    refine va_get (D := D) (ci := 2) (v := .int sd) (C := R_Line) (T := F_Line) (N := 7) hx hb hts uw_Line hown hK hP 0 rfl rfl 5 (by decide) (hts _ fl_Line_29) (fun _ h9 => h9) rfl d_Line_readFeature_49 ?_
    have hPc : va_P D hq_cl ([hq_ai ta (G 2) 100 t] ++ ([hq_o2 h ta (nI len) (nI (hq_fnd t 58 i (j - i))) (f_Line_readPart_o2 t i j) lt sd fc, hq_o1 x xa xb xc (nI k) (hq_z lab) lb im, hq_ai xa (G 0) 12 fh, hq_ai xb (G 0) 12 fv, hq_ai xc (G 2) 12 fl] ++ Z)) H := va_P.part (cx := [hq_ai ta (G 2) 100 t, hq_o2 h ta (nI len) (nI (hq_fnd t 58 i (j - i))) (f_Line_readPart_o2 t i j) lt sd fc, hq_o1 x xa xb xc (nI k) (hq_z lab) lb im, hq_ai xa (G 0) 12 fh, hq_ai xb (G 0) 12 fv, hq_ai xc (G 2) 12 fl]) hP [1, 0, 2, 3, 4, 5] rfl
    have hDc : va_D A ([hq_ai ta (G 2) 100 t] ++ ([hq_o2 h ta (nI len) (nI (hq_fnd t 58 i (j - i))) (f_Line_readPart_o2 t i j) lt sd fc, hq_o1 x xa xb xc (nI k) (hq_z lab) lb im, hq_ai xa (G 0) 12 fh, hq_ai xb (G 0) 12 fv, hq_ai xc (G 2) 12 fl] ++ Z)) := va_D.part (cx := [hq_ai ta (G 2) 100 t, hq_o2 h ta (nI len) (nI (hq_fnd t 58 i (j - i))) (f_Line_readPart_o2 t i j) lt sd fc, hq_o1 x xa xb xc (nI k) (hq_z lab) lb im, hq_ai xa (G 0) 12 fh, hq_ai xb (G 0) 12 fv, hq_ai xc (G 2) 12 fl]) hD [1, 0, 2, 3, 4, 5] (by decide) rfl
    refine hq_iF (hq_rS (As := [.ref ta, .int (nI i), .int (nI (hq_fnd t 58 i (j - i))), .int sd]) (rest := [.int lt, .ref x]) hx hb hml hown hts (c_NameHash_of l D G A ([hq_o2 h ta (nI len) (nI (hq_fnd t 58 i (j - i))) (f_Line_readPart_o2 t i j) lt sd fc, hq_o1 x xa xb xc (nI k) (hq_z lab) lb im, hq_ai xa (G 0) 12 fh, hq_ai xb (G 0) 12 fv, hq_ai xc (G 2) 12 fl] ++ Z) ta 100 t i (hq_fnd t 58 i (j - i)) sd (by first | assumption | omega) (by first | assumption | omega) (by first | assumption | omega)) yy_NameHash_of lk_Line_87 hA hK hN hS hPc hDc rfl hl.1 rfl (Nat.le_of_ble_eq_true rfl) d_Line_readFeature_52 ⟨by decide, by decide⟩ ⟨by decide, by decide⟩) hS (fun H locs hP hD hS => ?_)
    have hP : va_P D hq_cl ([hq_ai ta (G 2) 100 t, hq_o2 h ta (nI len) (nI (hq_fnd t 58 i (j - i))) (f_Line_readPart_o2 t i j) lt sd fc, hq_o1 x xa xb xc (nI k) (hq_z lab) lb im, hq_ai xa (G 0) 12 fh, hq_ai xb (G 0) 12 fv, hq_ai xc (G 2) 12 fl] ++ Z) H := hP
    have hD : va_D A ([hq_ai ta (G 2) 100 t, hq_o2 h ta (nI len) (nI (hq_fnd t 58 i (j - i))) (f_Line_readPart_o2 t i j) lt sd fc, hq_o1 x xa xb xc (nI k) (hq_z lab) lb im, hq_ai xa (G 0) 12 fh, hq_ai xb (G 0) 12 fv, hq_ai xc (G 2) 12 fl] ++ Z) := hD
    refine lv_lload hx hb d_Line_readFeature_55 (lv_at hl 0 rfl) ?_
    refine lv_l2i (v := Int64.toInt32 (f_H_clip (((Int32.toInt64 (f_Line_readPart_o2 t i j)) * (Int32.toInt64 fc)) / 100) 99999)) hx hb d_Line_readFeature_57 rfl ?_
    have hPc : va_P D hq_cl ([hq_o1 x xa xb xc (nI k) (hq_z lab) lb im, hq_ai xa (G 0) 12 fh, hq_ai xb (G 0) 12 fv, hq_ai xc (G 2) 12 fl] ++ ([hq_ai ta (G 2) 100 t, hq_o2 h ta (nI len) (nI (hq_fnd t 58 i (j - i))) (f_Line_readPart_o2 t i j) lt sd fc] ++ Z)) H := va_P.part (cx := [hq_o1 x xa xb xc (nI k) (hq_z lab) lb im, hq_ai xa (G 0) 12 fh, hq_ai xb (G 0) 12 fv, hq_ai xc (G 2) 12 fl, hq_ai ta (G 2) 100 t, hq_o2 h ta (nI len) (nI (hq_fnd t 58 i (j - i))) (f_Line_readPart_o2 t i j) lt sd fc]) hP [2, 3, 4, 5, 0, 1] rfl
    have hDc : va_D A ([hq_o1 x xa xb xc (nI k) (hq_z lab) lb im, hq_ai xa (G 0) 12 fh, hq_ai xb (G 0) 12 fv, hq_ai xc (G 2) 12 fl] ++ ([hq_ai ta (G 2) 100 t, hq_o2 h ta (nI len) (nI (hq_fnd t 58 i (j - i))) (f_Line_readPart_o2 t i j) lt sd fc] ++ Z)) := va_D.part (cx := [hq_o1 x xa xb xc (nI k) (hq_z lab) lb im, hq_ai xa (G 0) 12 fh, hq_ai xb (G 0) 12 fv, hq_ai xc (G 2) 12 fl, hq_ai ta (G 2) 100 t, hq_o2 h ta (nI len) (nI (hq_fnd t 58 i (j - i))) (f_Line_readPart_o2 t i j) lt sd fc]) hD [2, 3, 4, 5, 0, 1] (by decide) rfl
    refine hq_iF (hq_rV (As := [.int lt, .int (hq_hash t i (hq_fnd t 58 i (j - i)) sd), .int (Int64.toInt32 (f_H_clip (((Int32.toInt64 (f_Line_readPart_o2 t i j)) * (Int32.toInt64 fc)) / 100) 99999))]) (rest := []) hx hb hml hown hts (c_Example_addFeature l D G A ([hq_ai ta (G 2) 100 t, hq_o2 h ta (nI len) (nI (hq_fnd t 58 i (j - i))) (f_Line_readPart_o2 t i j) lt sd fc] ++ Z) x xa xb xc fh fv fl k lab lb im lt (hq_hash t i (hq_fnd t 58 i (j - i)) sd) (Int64.toInt32 (f_H_clip (((Int32.toInt64 (f_Line_readPart_o2 t i j)) * (Int32.toInt64 fc)) / 100) 99999)) (by first | assumption | omega) (by first | assumption | omega)) yy_Example_addFeature lk_Line_101 hA hK hN hS hPc hDc 0 1 rfl rfl rfl hl.1 rfl (Nat.le_of_ble_eq_true rfl) d_Line_readFeature_58 ⟨by decide, by decide⟩ ⟨by decide, by decide⟩) hS (fun H locs hP hD hS => ?_)
    have hP : va_P D hq_cl ([hq_o1 x xa xb xc (nI (f_Example_addFeature_o1 fh fv fl k lt (hq_hash t i (hq_fnd t 58 i (j - i)) sd) (Int64.toInt32 (f_H_clip (((Int32.toInt64 (f_Line_readPart_o2 t i j)) * (Int32.toInt64 fc)) / 100) 99999)))) (hq_z lab) lb im, hq_ai xa (G 0) 12 (f_Example_addFeature_o2 fh fv fl k lt (hq_hash t i (hq_fnd t 58 i (j - i)) sd) (Int64.toInt32 (f_H_clip (((Int32.toInt64 (f_Line_readPart_o2 t i j)) * (Int32.toInt64 fc)) / 100) 99999))), hq_ai xb (G 0) 12 (f_Example_addFeature_o3 fh fv fl k lt (hq_hash t i (hq_fnd t 58 i (j - i)) sd) (Int64.toInt32 (f_H_clip (((Int32.toInt64 (f_Line_readPart_o2 t i j)) * (Int32.toInt64 fc)) / 100) 99999))), hq_ai xc (G 2) 12 (f_Example_addFeature_o4 fh fv fl k lt (hq_hash t i (hq_fnd t 58 i (j - i)) sd) (Int64.toInt32 (f_H_clip (((Int32.toInt64 (f_Line_readPart_o2 t i j)) * (Int32.toInt64 fc)) / 100) 99999))), hq_ai ta (G 2) 100 t, hq_o2 h ta (nI len) (nI (hq_fnd t 58 i (j - i))) (f_Line_readPart_o2 t i j) lt sd fc] ++ Z) H := hP
    have hD : va_D A ([hq_o1 x xa xb xc (nI (f_Example_addFeature_o1 fh fv fl k lt (hq_hash t i (hq_fnd t 58 i (j - i)) sd) (Int64.toInt32 (f_H_clip (((Int32.toInt64 (f_Line_readPart_o2 t i j)) * (Int32.toInt64 fc)) / 100) 99999)))) (hq_z lab) lb im, hq_ai xa (G 0) 12 (f_Example_addFeature_o2 fh fv fl k lt (hq_hash t i (hq_fnd t 58 i (j - i)) sd) (Int64.toInt32 (f_H_clip (((Int32.toInt64 (f_Line_readPart_o2 t i j)) * (Int32.toInt64 fc)) / 100) 99999))), hq_ai xb (G 0) 12 (f_Example_addFeature_o3 fh fv fl k lt (hq_hash t i (hq_fnd t 58 i (j - i)) sd) (Int64.toInt32 (f_H_clip (((Int32.toInt64 (f_Line_readPart_o2 t i j)) * (Int32.toInt64 fc)) / 100) 99999))), hq_ai xc (G 2) 12 (f_Example_addFeature_o4 fh fv fl k lt (hq_hash t i (hq_fnd t 58 i (j - i)) sd) (Int64.toInt32 (f_H_clip (((Int32.toInt64 (f_Line_readPart_o2 t i j)) * (Int32.toInt64 fc)) / 100) 99999))), hq_ai ta (G 2) 100 t, hq_o2 h ta (nI len) (nI (hq_fnd t 58 i (j - i))) (f_Line_readPart_o2 t i j) lt sd fc] ++ Z) := hD
    have hP := va_P.part (cx := [hq_o2 h ta (nI len) (nI (hq_fnd t 58 i (j - i))) (f_Line_readPart_o2 t i j) lt sd fc, hq_ai ta (G 2) 100 t, hq_o1 x xa xb xc (nI (f_Example_addFeature_o1 fh fv fl k lt (hq_hash t i (hq_fnd t 58 i (j - i)) sd) (Int64.toInt32 (f_H_clip (((Int32.toInt64 (f_Line_readPart_o2 t i j)) * (Int32.toInt64 fc)) / 100) 99999)))) (hq_z lab) lb im, hq_ai xa (G 0) 12 (f_Example_addFeature_o2 fh fv fl k lt (hq_hash t i (hq_fnd t 58 i (j - i)) sd) (Int64.toInt32 (f_H_clip (((Int32.toInt64 (f_Line_readPart_o2 t i j)) * (Int32.toInt64 fc)) / 100) 99999))), hq_ai xb (G 0) 12 (f_Example_addFeature_o3 fh fv fl k lt (hq_hash t i (hq_fnd t 58 i (j - i)) sd) (Int64.toInt32 (f_H_clip (((Int32.toInt64 (f_Line_readPart_o2 t i j)) * (Int32.toInt64 fc)) / 100) 99999))), hq_ai xc (G 2) 12 (f_Example_addFeature_o4 fh fv fl k lt (hq_hash t i (hq_fnd t 58 i (j - i)) sd) (Int64.toInt32 (f_H_clip (((Int32.toInt64 (f_Line_readPart_o2 t i j)) * (Int32.toInt64 fc)) / 100) 99999)))]) hP [5, 4, 0, 1, 2, 3] rfl
    have hD := va_D.part (cx := [hq_o2 h ta (nI len) (nI (hq_fnd t 58 i (j - i))) (f_Line_readPart_o2 t i j) lt sd fc, hq_ai ta (G 2) 100 t, hq_o1 x xa xb xc (nI (f_Example_addFeature_o1 fh fv fl k lt (hq_hash t i (hq_fnd t 58 i (j - i)) sd) (Int64.toInt32 (f_H_clip (((Int32.toInt64 (f_Line_readPart_o2 t i j)) * (Int32.toInt64 fc)) / 100) 99999)))) (hq_z lab) lb im, hq_ai xa (G 0) 12 (f_Example_addFeature_o2 fh fv fl k lt (hq_hash t i (hq_fnd t 58 i (j - i)) sd) (Int64.toInt32 (f_H_clip (((Int32.toInt64 (f_Line_readPart_o2 t i j)) * (Int32.toInt64 fc)) / 100) 99999))), hq_ai xb (G 0) 12 (f_Example_addFeature_o3 fh fv fl k lt (hq_hash t i (hq_fnd t 58 i (j - i)) sd) (Int64.toInt32 (f_H_clip (((Int32.toInt64 (f_Line_readPart_o2 t i j)) * (Int32.toInt64 fc)) / 100) 99999))), hq_ai xc (G 2) 12 (f_Example_addFeature_o4 fh fv fl k lt (hq_hash t i (hq_fnd t 58 i (j - i)) sd) (Int64.toInt32 (f_H_clip (((Int32.toInt64 (f_Line_readPart_o2 t i j)) * (Int32.toInt64 fc)) / 100) 99999)))]) hD [5, 4, 0, 1, 2, 3] (by decide) rfl
    have hP : va_P D hq_cl ([hq_o2 h ta (nI len) (nI (hq_fnd t 58 i (j - i))) (f_Line_readPart_o2 t i j) lt sd fc, hq_ai ta (G 2) 100 t, hq_o1 x xa xb xc (nI (f_Line_readFeature_o3 t i j lt sd fc fh fv fl k)) (hq_z lab) lb im, hq_ai xa (G 0) 12 (f_Line_readFeature_o4 t i j lt sd fc fh fv fl k), hq_ai xb (G 0) 12 (f_Line_readFeature_o5 t i j lt sd fc fh fv fl k), hq_ai xc (G 2) 12 (f_Line_readFeature_o6 t i j lt sd fc fh fv fl k)] ++ Z) H := by rw [show nI (f_Line_readFeature_o3 t i j lt sd fc fh fv fl k) = nI (f_Example_addFeature_o1 fh fv fl k lt (hq_hash t i (hq_fnd t 58 i (j - i)) sd) (Int64.toInt32 (f_H_clip (((Int32.toInt64 (f_Line_readPart_o2 t i j)) * (Int32.toInt64 fc)) / 100) 99999))) by (rw [f_Line_readFeature_o3, if_pos c6] <;> rfl), show f_Line_readFeature_o4 t i j lt sd fc fh fv fl k = f_Example_addFeature_o2 fh fv fl k lt (hq_hash t i (hq_fnd t 58 i (j - i)) sd) (Int64.toInt32 (f_H_clip (((Int32.toInt64 (f_Line_readPart_o2 t i j)) * (Int32.toInt64 fc)) / 100) 99999)) by (rw [f_Line_readFeature_o4, if_pos c6] <;> rfl), show f_Line_readFeature_o5 t i j lt sd fc fh fv fl k = f_Example_addFeature_o3 fh fv fl k lt (hq_hash t i (hq_fnd t 58 i (j - i)) sd) (Int64.toInt32 (f_H_clip (((Int32.toInt64 (f_Line_readPart_o2 t i j)) * (Int32.toInt64 fc)) / 100) 99999)) by (rw [f_Line_readFeature_o5, if_pos c6] <;> rfl), show f_Line_readFeature_o6 t i j lt sd fc fh fv fl k = f_Example_addFeature_o4 fh fv fl k lt (hq_hash t i (hq_fnd t 58 i (j - i)) sd) (Int64.toInt32 (f_H_clip (((Int32.toInt64 (f_Line_readPart_o2 t i j)) * (Int32.toInt64 fc)) / 100) 99999)) by (rw [f_Line_readFeature_o6, if_pos c6] <;> rfl)]; exact hP
    have hD : va_D A ([hq_o2 h ta (nI len) (nI (hq_fnd t 58 i (j - i))) (f_Line_readPart_o2 t i j) lt sd fc, hq_ai ta (G 2) 100 t, hq_o1 x xa xb xc (nI (f_Line_readFeature_o3 t i j lt sd fc fh fv fl k)) (hq_z lab) lb im, hq_ai xa (G 0) 12 (f_Line_readFeature_o4 t i j lt sd fc fh fv fl k), hq_ai xb (G 0) 12 (f_Line_readFeature_o5 t i j lt sd fc fh fv fl k), hq_ai xc (G 2) 12 (f_Line_readFeature_o6 t i j lt sd fc fh fv fl k)] ++ Z) := by rw [show nI (f_Line_readFeature_o3 t i j lt sd fc fh fv fl k) = nI (f_Example_addFeature_o1 fh fv fl k lt (hq_hash t i (hq_fnd t 58 i (j - i)) sd) (Int64.toInt32 (f_H_clip (((Int32.toInt64 (f_Line_readPart_o2 t i j)) * (Int32.toInt64 fc)) / 100) 99999))) by (rw [f_Line_readFeature_o3, if_pos c6] <;> rfl), show f_Line_readFeature_o4 t i j lt sd fc fh fv fl k = f_Example_addFeature_o2 fh fv fl k lt (hq_hash t i (hq_fnd t 58 i (j - i)) sd) (Int64.toInt32 (f_H_clip (((Int32.toInt64 (f_Line_readPart_o2 t i j)) * (Int32.toInt64 fc)) / 100) 99999)) by (rw [f_Line_readFeature_o4, if_pos c6] <;> rfl), show f_Line_readFeature_o5 t i j lt sd fc fh fv fl k = f_Example_addFeature_o3 fh fv fl k lt (hq_hash t i (hq_fnd t 58 i (j - i)) sd) (Int64.toInt32 (f_H_clip (((Int32.toInt64 (f_Line_readPart_o2 t i j)) * (Int32.toInt64 fc)) / 100) 99999)) by (rw [f_Line_readFeature_o5, if_pos c6] <;> rfl), show f_Line_readFeature_o6 t i j lt sd fc fh fv fl k = f_Example_addFeature_o4 fh fv fl k lt (hq_hash t i (hq_fnd t 58 i (j - i)) sd) (Int64.toInt32 (f_H_clip (((Int32.toInt64 (f_Line_readPart_o2 t i j)) * (Int32.toInt64 fc)) / 100) 99999)) by (rw [f_Line_readFeature_o6, if_pos c6] <;> rfl)]; exact hD
    exact hret (hq_z (f_Example_addFeature fh fv fl k lt (hq_hash t i (hq_fnd t 58 i (j - i)) sd) (Int64.toInt32 (f_H_clip (((Int32.toInt64 (f_Line_readPart_o2 t i j)) * (Int32.toInt64 fc)) / 100) 99999)))) () H locs 61 ls d_Line_readFeature_61 (by rw [f_Line_readFeature, if_pos c6] <;> rfl) hP hD hS
  · -- 6 not taken
    have c6 : ¬ (f_Line_readPart t i j) = true := by rw [hq_z0.mp c6]; decide
    refine lv_iconst (v := 0) hx hb d_Line_readFeature_9 (by decide) ?_
    have hP : va_P D hq_cl ([hq_o2 h ta (nI len) (nI (hq_fnd t 58 i (j - i))) (f_Line_readPart_o2 t i j) lt sd fc, hq_ai ta (G 2) 100 t, hq_o1 x xa xb xc (nI (f_Line_readFeature_o3 t i j lt sd fc fh fv fl k)) (hq_z lab) lb im, hq_ai xa (G 0) 12 (f_Line_readFeature_o4 t i j lt sd fc fh fv fl k), hq_ai xb (G 0) 12 (f_Line_readFeature_o5 t i j lt sd fc fh fv fl k), hq_ai xc (G 2) 12 (f_Line_readFeature_o6 t i j lt sd fc fh fv fl k)] ++ Z) H := by rw [show nI (f_Line_readFeature_o3 t i j lt sd fc fh fv fl k) = nI k by (rw [f_Line_readFeature_o3, if_neg c6] <;> rfl), show f_Line_readFeature_o4 t i j lt sd fc fh fv fl k = fh by (rw [f_Line_readFeature_o4, if_neg c6] <;> rfl), show f_Line_readFeature_o5 t i j lt sd fc fh fv fl k = fv by (rw [f_Line_readFeature_o5, if_neg c6] <;> rfl), show f_Line_readFeature_o6 t i j lt sd fc fh fv fl k = fl by (rw [f_Line_readFeature_o6, if_neg c6] <;> rfl)]; exact hP
    have hD : va_D A ([hq_o2 h ta (nI len) (nI (hq_fnd t 58 i (j - i))) (f_Line_readPart_o2 t i j) lt sd fc, hq_ai ta (G 2) 100 t, hq_o1 x xa xb xc (nI (f_Line_readFeature_o3 t i j lt sd fc fh fv fl k)) (hq_z lab) lb im, hq_ai xa (G 0) 12 (f_Line_readFeature_o4 t i j lt sd fc fh fv fl k), hq_ai xb (G 0) 12 (f_Line_readFeature_o5 t i j lt sd fc fh fv fl k), hq_ai xc (G 2) 12 (f_Line_readFeature_o6 t i j lt sd fc fh fv fl k)] ++ Z) := by rw [show nI (f_Line_readFeature_o3 t i j lt sd fc fh fv fl k) = nI k by (rw [f_Line_readFeature_o3, if_neg c6] <;> rfl), show f_Line_readFeature_o4 t i j lt sd fc fh fv fl k = fh by (rw [f_Line_readFeature_o4, if_neg c6] <;> rfl), show f_Line_readFeature_o5 t i j lt sd fc fh fv fl k = fv by (rw [f_Line_readFeature_o5, if_neg c6] <;> rfl), show f_Line_readFeature_o6 t i j lt sd fc fh fv fl k = fl by (rw [f_Line_readFeature_o6, if_neg c6] <;> rfl)]; exact hD
    exact hret 0 () H locs 10 ls d_Line_readFeature_10 (by rw [f_Line_readFeature, if_neg c6] <;> rfl) hP hD hS
theorem d_Line_readImportance_0 : decode b_Line_readImportance 0 = .ok (.aload_n 3, 1) := by decide +kernel
theorem d_Line_readImportance_1 : decode b_Line_readImportance 1 = .ok (.aload_n 0, 1) := by decide +kernel
theorem d_Line_readImportance_2 : decode b_Line_readImportance 2 = .ok (.getfield 9, 3) := by decide +kernel
theorem d_Line_readImportance_5 : decode b_Line_readImportance 5 = .ok (.iload_n 1, 1) := by decide +kernel
theorem d_Line_readImportance_6 : decode b_Line_readImportance 6 = .ok (.caload, 1) := by decide +kernel
theorem d_Line_readImportance_7 : decode b_Line_readImportance 7 = .ok (.bipush (48), 2) := by decide +kernel
theorem d_Line_readImportance_9 : decode b_Line_readImportance 9 = .ok (.isub, 1) := by decide +kernel
theorem d_Line_readImportance_10 : decode b_Line_readImportance 10 = .ok (.putfield 67, 3) := by decide +kernel
theorem d_Line_readImportance_13 : decode b_Line_readImportance 13 = .ok (.aload_n 3, 1) := by decide +kernel
theorem d_Line_readImportance_14 : decode b_Line_readImportance 14 = .ok (.getfield 67, 3) := by decide +kernel
theorem d_Line_readImportance_17 : decode b_Line_readImportance 17 = .ok (.iconst 1, 1) := by decide +kernel
theorem d_Line_readImportance_18 : decode b_Line_readImportance 18 = .ok (.if_icmp .lt (27), 3) := by decide +kernel
theorem d_Line_readImportance_21 : decode b_Line_readImportance 21 = .ok (.aload_n 3, 1) := by decide +kernel
theorem d_Line_readImportance_22 : decode b_Line_readImportance 22 = .ok (.getfield 67, 3) := by decide +kernel
theorem d_Line_readImportance_25 : decode b_Line_readImportance 25 = .ok (.iconst 5, 1) := by decide +kernel
theorem d_Line_readImportance_26 : decode b_Line_readImportance 26 = .ok (.if_icmp .gt (19), 3) := by decide +kernel
theorem d_Line_readImportance_29 : decode b_Line_readImportance 29 = .ok (.aload_n 0, 1) := by decide +kernel
theorem d_Line_readImportance_30 : decode b_Line_readImportance 30 = .ok (.iload_n 1, 1) := by decide +kernel
theorem d_Line_readImportance_31 : decode b_Line_readImportance 31 = .ok (.iconst 1, 1) := by decide +kernel
theorem d_Line_readImportance_32 : decode b_Line_readImportance 32 = .ok (.iadd, 1) := by decide +kernel
theorem d_Line_readImportance_33 : decode b_Line_readImportance 33 = .ok (.iload_n 2, 1) := by decide +kernel
theorem d_Line_readImportance_34 : decode b_Line_readImportance 34 = .ok (.invokevirtual 56, 3) := by decide +kernel
theorem d_Line_readImportance_37 : decode b_Line_readImportance 37 = .ok (.iload_n 2, 1) := by decide +kernel
theorem d_Line_readImportance_38 : decode b_Line_readImportance 38 = .ok (.if_icmp .ne (7), 3) := by decide +kernel
theorem d_Line_readImportance_41 : decode b_Line_readImportance 41 = .ok (.iconst 1, 1) := by decide +kernel
theorem d_Line_readImportance_42 : decode b_Line_readImportance 42 = .ok (.goto (4), 3) := by decide +kernel
theorem d_Line_readImportance_45 : decode b_Line_readImportance 45 = .ok (.iconst 0, 1) := by decide +kernel
theorem d_Line_readImportance_46 : decode b_Line_readImportance 46 = .ok (.ireturn, 1) := by decide +kernel
def f_Line_readImportance (t : Nat → Int32) (i : Nat) (j : Nat) : Bool := if ((t i) - 48) < 1 then false else if 5 < ((t i) - 48) then false else if (hq_skp t 32 (i + 1) (j - (i + 1))) = j then true else false
set_option maxHeartbeats 4000000 in
set_option maxRecDepth 100000 in
theorem c_Line_readImportance (l : Launch) (D : va_G) (G : Nat → ClassId) (A : Nat → Prop) (Z : va_W) (h : Nat) (ta : Nat) (t : Nat → Int32) (len : Nat) (ne : Int32) (pn : Int32) (lt : Int32) (sd : Int32) (fc : Int32) (x : Nat) (xa : Nat) (xb : Nat) (xc : Nat) (fh : Nat → Int32) (fv : Nat → Int32) (fl : Nat → Int32) (k : Nat) (lab : Bool) (lb : Int32) (im : Int32) (i : Nat) (j : Nat) (hlen : len ≤ 100) (hj : j ≤ len) (hi : i < j) : hq_FI l D G A y_Line_readImportance b_Line_readImportance 4 .boolean 1 [.ref h, .int (nI i), .int (nI j), .ref x] ([hq_o2 h ta (nI len) ne pn lt sd fc, hq_ai ta (G 2) 100 t, hq_o1 x xa xb xc (nI k) (hq_z lab) lb im, hq_ai xa (G 0) 12 fh, hq_ai xb (G 0) 12 fv, hq_ai xc (G 2) 12 fl] ++ Z) (hq_z (f_Line_readImportance t i j)) ([hq_o2 h ta (nI len) ne pn lt sd fc, hq_ai ta (G 2) 100 t, hq_o1 x xa xb xc (nI k) (hq_z lab) lb ((t i) - 48), hq_ai xa (G 0) 12 fh, hq_ai xb (G 0) 12 fv, hq_ai xc (G 2) 12 fl] ++ Z) := by
  refine hq_bI (by decide) (Nat.le_of_ble_eq_true rfl) (fun r u h => by rw [h]; exact hq_znar _) ?_
  intro p e s m args below meth c Q hx hb hml hts hown hA hK hN hret ls H locs hl hP hD hS
  have hown : s.vm.findClass "HashedLearner$Line" = some m.cls := hown
  have hl : lv_has ls 4 [(0, .ref h), (1, .int (nI i)), (2, .int (nI j)), (3, .ref x)] := hl
  refine lv_aload_n hx hb d_Line_readImportance_0 rfl (lv_at hl 3 rfl) ?_
  refine lv_aload_n hx hb d_Line_readImportance_1 rfl (lv_at hl 0 rfl) ?_
  refine va_get (D := D) (ci := 2) (v := .ref ta) (C := R_Line) (T := F_Line) (N := 7) hx hb hts uw_Line hown hK hP 0 rfl rfl 0 (by decide) (hts _ fl_Line_9) (fun _ h9 => h9) rfl d_Line_readImportance_2 ?_
  refine lv_iload_n hx hb d_Line_readImportance_5 rfl (lv_at hl 1 rfl) ?_
  refine hq_cald (j := i) hx hb hK hP 1 rfl (by omega) (by omega) d_Line_readImportance_6 ?_
  refine lv_bipush (v := 48) hx hb d_Line_readImportance_7 (by decide) ?_
  refine lv_isub hx hb d_Line_readImportance_9 ?_
  refine va_put (D := D) (ci := 1) (v := .int ((t i) - 48)) (ty := .int) (C := R_Example) (T := F_Example) (N := 7) hx hb hts uw_Example t_Example t_Example_ok n_Example hown hK hP hD hS 2 rfl rfl 6 (by decide) (hts _ fl_Line_67) (fun _ h9 => h9) rfl (by decide +kernel) (rfl) (rfl) (Nat.le_of_ble_eq_true rfl) d_Line_readImportance_10 (fun H locs hP hD hS => ?_)
  have hP : va_P D hq_cl ([hq_o2 h ta (nI len) ne pn lt sd fc, hq_ai ta (G 2) 100 t, hq_o1 x xa xb xc (nI k) (hq_z lab) lb ((t i) - 48), hq_ai xa (G 0) 12 fh, hq_ai xb (G 0) 12 fv, hq_ai xc (G 2) 12 fl] ++ Z) H := hP
  have hD : va_D A ([hq_o2 h ta (nI len) ne pn lt sd fc, hq_ai ta (G 2) 100 t, hq_o1 x xa xb xc (nI k) (hq_z lab) lb ((t i) - 48), hq_ai xa (G 0) 12 fh, hq_ai xb (G 0) 12 fv, hq_ai xc (G 2) 12 fl] ++ Z) := hD
  refine lv_aload_n hx hb d_Line_readImportance_13 rfl (lv_at hl 3 rfl) ?_
  refine va_get (D := D) (ci := 1) (v := .int ((t i) - 48)) (C := R_Example) (T := F_Example) (N := 7) hx hb hts uw_Example hown hK hP 2 rfl rfl 6 (by decide) (hts _ fl_Line_67) (fun _ h9 => h9) rfl d_Line_readImportance_14 ?_
  refine lv_iconst (v := 1) hx hb d_Line_readImportance_17 (by decide) ?_
  refine lv_icmp_lt (tgt := 45) hx hb d_Line_readImportance_18 rfl (fun c18 => ?_) (fun c18 => ?_)
  · -- 18 taken
    have c18 : ((t i) - 48) < 1 := c18
    refine lv_iconst (v := 0) hx hb d_Line_readImportance_45 (by decide) ?_
    exact hret 0 () H locs 46 ls d_Line_readImportance_46 (by rw [f_Line_readImportance, if_pos c18] <;> rfl) hP hD hS
  · -- 18 not taken
    have c18 : ¬ ((t i) - 48) < 1 := c18
    refine lv_aload_n hx hb d_Line_readImportance_21 rfl (lv_at hl 3 rfl) ?_
    refine va_get (D := D) (ci := 1) (v := .int ((t i) - 48)) (C := R_Example) (T := F_Example) (N := 7) hx hb hts uw_Example hown hK hP 2 rfl rfl 6 (by decide) (hts _ fl_Line_67) (fun _ h9 => h9) rfl d_Line_readImportance_22 ?_
    refine lv_iconst (v := 5) hx hb d_Line_readImportance_25 (by decide) ?_
    refine lv_icmp_gt (tgt := 45) hx hb d_Line_readImportance_26 rfl (fun c26 => ?_) (fun c26 => ?_)
    · -- 26 taken
      have c26 : 5 < ((t i) - 48) := c26
      refine lv_iconst (v := 0) hx hb d_Line_readImportance_45 (by decide) ?_
      exact hret 0 () H locs 46 ls d_Line_readImportance_46 (by rw [f_Line_readImportance, if_neg c18, if_pos c26] <;> rfl) hP hD hS
    · -- 26 not taken
      have c26 : ¬ 5 < ((t i) - 48) := c26
      refine lv_aload_n hx hb d_Line_readImportance_29 rfl (lv_at hl 0 rfl) ?_
      refine lv_iload_n hx hb d_Line_readImportance_30 rfl (lv_at hl 1 rfl) ?_
      refine lv_iconst (v := 1) hx hb d_Line_readImportance_31 (by decide) ?_
      refine lv_iadd hx hb d_Line_readImportance_32 ?_
      refine hq_topi (x' := nI (i + 1)) (nI_add i 1) ?_
      refine lv_iload_n hx hb d_Line_readImportance_33 rfl (lv_at hl 2 rfl) ?_
      have hPc : va_P D hq_cl ([hq_o2 h ta (nI len) ne pn lt sd fc, hq_ai ta (G 2) 100 t] ++ ([hq_o1 x xa xb xc (nI k) (hq_z lab) lb ((t i) - 48), hq_ai xa (G 0) 12 fh, hq_ai xb (G 0) 12 fv, hq_ai xc (G 2) 12 fl] ++ Z)) H := hP
      have hDc : va_D A ([hq_o2 h ta (nI len) ne pn lt sd fc, hq_ai ta (G 2) 100 t] ++ ([hq_o1 x xa xb xc (nI k) (hq_z lab) lb ((t i) - 48), hq_ai xa (G 0) 12 fh, hq_ai xb (G 0) 12 fv, hq_ai xc (G 2) 12 fl] ++ Z)) := hD
      refine hq_iF (hq_rV (As := [.int (nI (i + 1)), .int (nI j)]) (rest := []) hx hb hml hown hts (c_Line_skipSpaces l D G A ([hq_o1 x xa xb xc (nI k) (hq_z lab) lb ((t i) - 48), hq_ai xa (G 0) 12 fh, hq_ai xb (G 0) 12 fv, hq_ai xc (G 2) 12 fl] ++ Z) h ta t len ne pn lt sd fc (i + 1) j (by first | assumption | omega) (by first | assumption | omega)) yy_Line_skipSpaces lk_Line_56 hA hK hN hS hPc hDc 0 2 rfl rfl rfl hl.1 rfl (Nat.le_of_ble_eq_true rfl) d_Line_readImportance_34 ⟨by decide, by decide⟩ ⟨by decide, by decide⟩) hS (fun H locs hP hD hS => ?_)
      have hP : va_P D hq_cl ([hq_o2 h ta (nI len) ne pn lt sd fc, hq_ai ta (G 2) 100 t, hq_o1 x xa xb xc (nI k) (hq_z lab) lb ((t i) - 48), hq_ai xa (G 0) 12 fh, hq_ai xb (G 0) 12 fv, hq_ai xc (G 2) 12 fl] ++ Z) H := hP
      have hD : va_D A ([hq_o2 h ta (nI len) ne pn lt sd fc, hq_ai ta (G 2) 100 t, hq_o1 x xa xb xc (nI k) (hq_z lab) lb ((t i) - 48), hq_ai xa (G 0) 12 fh, hq_ai xb (G 0) 12 fv, hq_ai xc (G 2) 12 fl] ++ Z) := hD
      have hp := hq_skp_le t 32 (j - (i + 1)) (i + 1)
      refine lv_iload_n hx hb d_Line_readImportance_37 rfl (lv_at hl 2 rfl) ?_
      refine lv_icmp_ne (tgt := 45) hx hb d_Line_readImportance_38 rfl (fun c38 => ?_) (fun c38 => ?_)
      · -- 38 taken
        have c38 : ¬ (hq_skp t 32 (i + 1) (j - (i + 1))) = j := fun h => c38 ((nI_eq (a := hq_skp t 32 (i + 1) (j - (i + 1))) (b := j) (by omega) (by omega)).mpr h)
        refine lv_iconst (v := 0) hx hb d_Line_readImportance_45 (by decide) ?_
        exact hret 0 () H locs 46 ls d_Line_readImportance_46 (by rw [f_Line_readImportance, if_neg c18, if_neg c26, if_neg c38] <;> rfl) hP hD hS
      · -- 38 not taken
        have c38 : (hq_skp t 32 (i + 1) (j - (i + 1))) = j := (nI_eq (a := hq_skp t 32 (i + 1) (j - (i + 1))) (b := j) (by omega) (by omega)).mp c38
        refine lv_iconst (v := 1) hx hb d_Line_readImportance_41 (by decide) ?_
        refine lv_goto (tgt := 46) hx hb d_Line_readImportance_42 rfl ?_
        exact hret 1 () H locs 46 ls d_Line_readImportance_46 (by rw [f_Line_readImportance, if_neg c18, if_neg c26, if_pos c38] <;> rfl) hP hD hS
theorem d_Line_readHead_0 : decode b_Line_readHead 0 = .ok (.aload_n 0, 1) := by decide +kernel
theorem d_Line_readHead_1 : decode b_Line_readHead 1 = .ok (.iconst 0, 1) := by decide +kernel
theorem d_Line_readHead_2 : decode b_Line_readHead 2 = .ok (.iload_n 1, 1) := by decide +kernel
theorem d_Line_readHead_3 : decode b_Line_readHead 3 = .ok (.invokevirtual 56, 3) := by decide +kernel
theorem d_Line_readHead_6 : decode b_Line_readHead 6 = .ok (.istore_n 3, 1) := by decide +kernel
theorem d_Line_readHead_7 : decode b_Line_readHead 7 = .ok (.aload_n 2, 1) := by decide +kernel
theorem d_Line_readHead_8 : decode b_Line_readHead 8 = .ok (.iload_n 3, 1) := by decide +kernel
theorem d_Line_readHead_9 : decode b_Line_readHead 9 = .ok (.iload_n 1, 1) := by decide +kernel
theorem d_Line_readHead_10 : decode b_Line_readHead 10 = .ok (.if_icmp .ge (7), 3) := by decide +kernel
theorem d_Line_readHead_13 : decode b_Line_readHead 13 = .ok (.iconst 1, 1) := by decide +kernel
theorem d_Line_readHead_14 : decode b_Line_readHead 14 = .ok (.goto (4), 3) := by decide +kernel
theorem d_Line_readHead_17 : decode b_Line_readHead 17 = .ok (.iconst 0, 1) := by decide +kernel
theorem d_Line_readHead_18 : decode b_Line_readHead 18 = .ok (.putfield 60, 3) := by decide +kernel
theorem d_Line_readHead_21 : decode b_Line_readHead 21 = .ok (.aload_n 2, 1) := by decide +kernel
theorem d_Line_readHead_22 : decode b_Line_readHead 22 = .ok (.iconst 0, 1) := by decide +kernel
theorem d_Line_readHead_23 : decode b_Line_readHead 23 = .ok (.putfield 64, 3) := by decide +kernel
theorem d_Line_readHead_26 : decode b_Line_readHead 26 = .ok (.aload_n 2, 1) := by decide +kernel
theorem d_Line_readHead_27 : decode b_Line_readHead 27 = .ok (.iconst 1, 1) := by decide +kernel
theorem d_Line_readHead_28 : decode b_Line_readHead 28 = .ok (.putfield 67, 3) := by decide +kernel
theorem d_Line_readHead_31 : decode b_Line_readHead 31 = .ok (.aload_n 2, 1) := by decide +kernel
theorem d_Line_readHead_32 : decode b_Line_readHead 32 = .ok (.getfield 60, 3) := by decide +kernel
theorem d_Line_readHead_35 : decode b_Line_readHead 35 = .ok (.ifCond .ne (5), 3) := by decide +kernel
theorem d_Line_readHead_38 : decode b_Line_readHead 38 = .ok (.iconst 1, 1) := by decide +kernel
theorem d_Line_readHead_39 : decode b_Line_readHead 39 = .ok (.ireturn, 1) := by decide +kernel
theorem d_Line_readHead_40 : decode b_Line_readHead 40 = .ok (.aload_n 0, 1) := by decide +kernel
theorem d_Line_readHead_41 : decode b_Line_readHead 41 = .ok (.bipush (32), 2) := by decide +kernel
theorem d_Line_readHead_43 : decode b_Line_readHead 43 = .ok (.iload_n 3, 1) := by decide +kernel
theorem d_Line_readHead_44 : decode b_Line_readHead 44 = .ok (.iload_n 1, 1) := by decide +kernel
theorem d_Line_readHead_45 : decode b_Line_readHead 45 = .ok (.invokevirtual 39, 3) := by decide +kernel
theorem d_Line_readHead_48 : decode b_Line_readHead 48 = .ok (.istore 4, 2) := by decide +kernel
theorem d_Line_readHead_50 : decode b_Line_readHead 50 = .ok (.aload_n 2, 1) := by decide +kernel
theorem d_Line_readHead_51 : decode b_Line_readHead 51 = .ok (.aload_n 0, 1) := by decide +kernel
theorem d_Line_readHead_52 : decode b_Line_readHead 52 = .ok (.iload_n 3, 1) := by decide +kernel
theorem d_Line_readHead_53 : decode b_Line_readHead 53 = .ok (.iload 4, 2) := by decide +kernel
theorem d_Line_readHead_55 : decode b_Line_readHead 55 = .ok (.invokevirtual 70, 3) := by decide +kernel
theorem d_Line_readHead_58 : decode b_Line_readHead 58 = .ok (.putfield 64, 3) := by decide +kernel
theorem d_Line_readHead_61 : decode b_Line_readHead 61 = .ok (.aload_n 0, 1) := by decide +kernel
theorem d_Line_readHead_62 : decode b_Line_readHead 62 = .ok (.iload 4, 2) := by decide +kernel
theorem d_Line_readHead_64 : decode b_Line_readHead 64 = .ok (.iload_n 1, 1) := by decide +kernel
theorem d_Line_readHead_65 : decode b_Line_readHead 65 = .ok (.invokevirtual 56, 3) := by decide +kernel
theorem d_Line_readHead_68 : decode b_Line_readHead 68 = .ok (.istore 5, 2) := by decide +kernel
theorem d_Line_readHead_70 : decode b_Line_readHead 70 = .ok (.aload_n 2, 1) := by decide +kernel
theorem d_Line_readHead_71 : decode b_Line_readHead 71 = .ok (.getfield 64, 3) := by decide +kernel
theorem d_Line_readHead_74 : decode b_Line_readHead 74 = .ok (.ldc 73, 2) := by decide +kernel
theorem d_Line_readHead_76 : decode b_Line_readHead 76 = .ok (.if_icmp .eq (24), 3) := by decide +kernel
theorem d_Line_readHead_79 : decode b_Line_readHead 79 = .ok (.iload 5, 2) := by decide +kernel
theorem d_Line_readHead_81 : decode b_Line_readHead 81 = .ok (.iload_n 1, 1) := by decide +kernel
theorem d_Line_readHead_82 : decode b_Line_readHead 82 = .ok (.if_icmp .eq (14), 3) := by decide +kernel
theorem d_Line_readHead_85 : decode b_Line_readHead 85 = .ok (.aload_n 0, 1) := by decide +kernel
theorem d_Line_readHead_86 : decode b_Line_readHead 86 = .ok (.iload 5, 2) := by decide +kernel
theorem d_Line_readHead_88 : decode b_Line_readHead 88 = .ok (.iload_n 1, 1) := by decide +kernel
theorem d_Line_readHead_89 : decode b_Line_readHead 89 = .ok (.aload_n 2, 1) := by decide +kernel
theorem d_Line_readHead_90 : decode b_Line_readHead 90 = .ok (.invokevirtual 74, 3) := by decide +kernel
theorem d_Line_readHead_93 : decode b_Line_readHead 93 = .ok (.ifCond .eq (7), 3) := by decide +kernel
theorem d_Line_readHead_96 : decode b_Line_readHead 96 = .ok (.iconst 1, 1) := by decide +kernel
theorem d_Line_readHead_97 : decode b_Line_readHead 97 = .ok (.goto (4), 3) := by decide +kernel
theorem d_Line_readHead_100 : decode b_Line_readHead 100 = .ok (.iconst 0, 1) := by decide +kernel
theorem d_Line_readHead_101 : decode b_Line_readHead 101 = .ok (.ireturn, 1) := by decide +kernel
def f_Line_readHead (t : Nat → Int32) (j : Nat) : Bool := if j ≤ (hq_skp t 32 0 (j - 0)) then true else if (hq_numC t (hq_skp t 32 0 (j - 0)) (hq_fnd t 32 (hq_skp t 32 0 (j - 0)) (j - (hq_skp t 32 0 (j - 0))))) = (-2147483648) then false else if (hq_skp t 32 (hq_fnd t 32 (hq_skp t 32 0 (j - 0)) (j - (hq_skp t 32 0 (j - 0)))) (j - (hq_fnd t 32 (hq_skp t 32 0 (j - 0)) (j - (hq_skp t 32 0 (j - 0)))))) = j then true else if (f_Line_readImportance t (hq_skp t 32 (hq_fnd t 32 (hq_skp t 32 0 (j - 0)) (j - (hq_skp t 32 0 (j - 0)))) (j - (hq_fnd t 32 (hq_skp t 32 0 (j - 0)) (j - (hq_skp t 32 0 (j - 0)))))) j) = true then true else false
def f_Line_readHead_o1 (t : Nat → Int32) (j : Nat) : Bool := if j ≤ (hq_skp t 32 0 (j - 0)) then false else true
def f_Line_readHead_o2 (t : Nat → Int32) (j : Nat) : Int32 := if j ≤ (hq_skp t 32 0 (j - 0)) then 0 else hq_numC t (hq_skp t 32 0 (j - 0)) (hq_fnd t 32 (hq_skp t 32 0 (j - 0)) (j - (hq_skp t 32 0 (j - 0))))
def f_Line_readHead_o3 (t : Nat → Int32) (j : Nat) : Int32 := if j ≤ (hq_skp t 32 0 (j - 0)) then 1 else if (hq_numC t (hq_skp t 32 0 (j - 0)) (hq_fnd t 32 (hq_skp t 32 0 (j - 0)) (j - (hq_skp t 32 0 (j - 0))))) = (-2147483648) then 1 else if (hq_skp t 32 (hq_fnd t 32 (hq_skp t 32 0 (j - 0)) (j - (hq_skp t 32 0 (j - 0)))) (j - (hq_fnd t 32 (hq_skp t 32 0 (j - 0)) (j - (hq_skp t 32 0 (j - 0)))))) = j then 1 else (t (hq_skp t 32 (hq_fnd t 32 (hq_skp t 32 0 (j - 0)) (j - (hq_skp t 32 0 (j - 0)))) (j - (hq_fnd t 32 (hq_skp t 32 0 (j - 0)) (j - (hq_skp t 32 0 (j - 0))))))) - 48
set_option maxHeartbeats 4000000 in
set_option maxRecDepth 100000 in
theorem c_Line_readHead (l : Launch) (D : va_G) (G : Nat → ClassId) (A : Nat → Prop) (Z : va_W) (h : Nat) (ta : Nat) (t : Nat → Int32) (len : Nat) (ne : Int32) (pn : Int32) (lt : Int32) (sd : Int32) (fc : Int32) (x : Nat) (xa : Nat) (xb : Nat) (xc : Nat) (fh : Nat → Int32) (fv : Nat → Int32) (fl : Nat → Int32) (k : Nat) (lab : Bool) (lb : Int32) (im : Int32) (j : Nat) (hlen : len ≤ 100) (hj : j ≤ len) : hq_FI l D G A y_Line_readHead b_Line_readHead 6 .boolean 2 [.ref h, .int (nI j), .ref x] ([hq_o2 h ta (nI len) ne pn lt sd fc, hq_ai ta (G 2) 100 t, hq_o1 x xa xb xc (nI k) (hq_z lab) lb im, hq_ai xa (G 0) 12 fh, hq_ai xb (G 0) 12 fv, hq_ai xc (G 2) 12 fl] ++ Z) (hq_z (f_Line_readHead t j)) ([hq_o2 h ta (nI len) ne pn lt sd fc, hq_ai ta (G 2) 100 t, hq_o1 x xa xb xc (nI k) (hq_z (f_Line_readHead_o1 t j)) (f_Line_readHead_o2 t j) (f_Line_readHead_o3 t j), hq_ai xa (G 0) 12 fh, hq_ai xb (G 0) 12 fv, hq_ai xc (G 2) 12 fl] ++ Z) := by
  refine hq_bI (by decide) (Nat.le_of_ble_eq_true rfl) (fun r u h => by rw [h]; exact hq_znar _) ?_
  intro p e s m args below meth c Q hx hb hml hts hown hA hK hN hret ls H locs hl hP hD hS
  have hown : s.vm.findClass "HashedLearner$Line" = some m.cls := hown
  have hl : lv_has ls 6 [(0, .ref h), (1, .int (nI j)), (2, .ref x)] := hl
  refine lv_aload_n hx hb d_Line_readHead_0 rfl (lv_at hl 0 rfl) ?_
  refine lv_iconst (v := nI 0) hx hb d_Line_readHead_1 (by decide) ?_
  refine lv_iload_n hx hb d_Line_readHead_2 rfl (lv_at hl 1 rfl) ?_
  have hPc : va_P D hq_cl ([hq_o2 h ta (nI len) ne pn lt sd fc, hq_ai ta (G 2) 100 t] ++ ([hq_o1 x xa xb xc (nI k) (hq_z lab) lb im, hq_ai xa (G 0) 12 fh, hq_ai xb (G 0) 12 fv, hq_ai xc (G 2) 12 fl] ++ Z)) H := hP
  have hDc : va_D A ([hq_o2 h ta (nI len) ne pn lt sd fc, hq_ai ta (G 2) 100 t] ++ ([hq_o1 x xa xb xc (nI k) (hq_z lab) lb im, hq_ai xa (G 0) 12 fh, hq_ai xb (G 0) 12 fv, hq_ai xc (G 2) 12 fl] ++ Z)) := hD
  refine hq_iF (hq_rV (As := [.int (nI 0), .int (nI j)]) (rest := []) hx hb hml hown hts (c_Line_skipSpaces l D G A ([hq_o1 x xa xb xc (nI k) (hq_z lab) lb im, hq_ai xa (G 0) 12 fh, hq_ai xb (G 0) 12 fv, hq_ai xc (G 2) 12 fl] ++ Z) h ta t len ne pn lt sd fc 0 j (by first | assumption | omega) (by first | assumption | omega)) yy_Line_skipSpaces lk_Line_56 hA hK hN hS hPc hDc 0 2 rfl rfl rfl hl.1 rfl (Nat.le_of_ble_eq_true rfl) d_Line_readHead_3 ⟨by decide, by decide⟩ ⟨by decide, by decide⟩) hS (fun H locs hP hD hS => ?_)
  have hP : va_P D hq_cl ([hq_o2 h ta (nI len) ne pn lt sd fc, hq_ai ta (G 2) 100 t, hq_o1 x xa xb xc (nI k) (hq_z lab) lb im, hq_ai xa (G 0) 12 fh, hq_ai xb (G 0) 12 fv, hq_ai xc (G 2) 12 fl] ++ Z) H := hP
  have hD : va_D A ([hq_o2 h ta (nI len) ne pn lt sd fc, hq_ai ta (G 2) 100 t, hq_o1 x xa xb xc (nI k) (hq_z lab) lb im, hq_ai xa (G 0) 12 fh, hq_ai xb (G 0) 12 fv, hq_ai xc (G 2) 12 fl] ++ Z) := hD
  have hp := hq_skp_le t 32 (j - 0) 0
  refine lv_istore_n (nL := 6) (lv' := [(3, .int (nI (hq_skp t 32 0 (j - 0)))), (0, .ref h), (1, .int (nI j)), (2, .ref x)]) hx hb d_Line_readHead_6 rfl hl (by decide) rfl (fun ls hl => ?_)
  refine lv_aload_n hx hb d_Line_readHead_7 rfl (lv_at hl 3 rfl) ?_
  refine lv_iload_n hx hb d_Line_readHead_8 rfl (lv_at hl 0 rfl) ?_
  refine lv_iload_n hx hb d_Line_readHead_9 rfl (lv_at hl 2 rfl) ?_
  refine lv_icmp_ge (tgt := 17) hx hb d_Line_readHead_10 rfl (fun c10 => ?_) (fun c10 => ?_)
  · -- 10 taken
    have c10 : j ≤ (hq_skp t 32 0 (j - 0)) := (nI_leI (a := j) (b := hq_skp t 32 0 (j - 0)) (by omega) (by omega)).mp c10
    refine lv_iconst (v := 0) hx hb d_Line_readHead_17 (by decide) ?_
    refine va_put (D := D) (ci := 1) (v := .int 0) (ty := .boolean) (C := R_Example) (T := F_Example) (N := 7) hx hb hts uw_Example t_Example t_Example_ok n_Example hown hK hP hD hS 2 rfl rfl 4 (by decide) (hts _ fl_Line_60) (fun _ h9 => h9) rfl (by decide +kernel) (by decide) (by decide) (Nat.le_of_ble_eq_true rfl) d_Line_readHead_18 (fun H locs hP hD hS => ?_)
    have hP : va_P D hq_cl ([hq_o2 h ta (nI len) ne pn lt sd fc, hq_ai ta (G 2) 100 t, hq_o1 x xa xb xc (nI k) 0 lb im, hq_ai xa (G 0) 12 fh, hq_ai xb (G 0) 12 fv, hq_ai xc (G 2) 12 fl] ++ Z) H := hP
    have hD : va_D A ([hq_o2 h ta (nI len) ne pn lt sd fc, hq_ai ta (G 2) 100 t, hq_o1 x xa xb xc (nI k) 0 lb im, hq_ai xa (G 0) 12 fh, hq_ai xb (G 0) 12 fv, hq_ai xc (G 2) 12 fl] ++ Z) := hD
    refine lv_aload_n hx hb d_Line_readHead_21 rfl (lv_at hl 3 rfl) ?_
    refine lv_iconst (v := 0) hx hb d_Line_readHead_22 (by decide) ?_
    refine va_put (D := D) (ci := 1) (v := .int 0) (ty := .int) (C := R_Example) (T := F_Example) (N := 7) hx hb hts uw_Example t_Example t_Example_ok n_Example hown hK hP hD hS 2 rfl rfl 5 (by decide) (hts _ fl_Line_64) (fun _ h9 => h9) rfl (by decide +kernel) (rfl) (rfl) (Nat.le_of_ble_eq_true rfl) d_Line_readHead_23 (fun H locs hP hD hS => ?_)
    have hP : va_P D hq_cl ([hq_o2 h ta (nI len) ne pn lt sd fc, hq_ai ta (G 2) 100 t, hq_o1 x xa xb xc (nI k) 0 0 im, hq_ai xa (G 0) 12 fh, hq_ai xb (G 0) 12 fv, hq_ai xc (G 2) 12 fl] ++ Z) H := hP
    have hD : va_D A ([hq_o2 h ta (nI len) ne pn lt sd fc, hq_ai ta (G 2) 100 t, hq_o1 x xa xb xc (nI k) 0 0 im, hq_ai xa (G 0) 12 fh, hq_ai xb (G 0) 12 fv, hq_ai xc (G 2) 12 fl] ++ Z) := hD
    refine lv_aload_n hx hb d_Line_readHead_26 rfl (lv_at hl 3 rfl) ?_
    refine lv_iconst (v := 1) hx hb d_Line_readHead_27 (by decide) ?_
    refine va_put (D := D) (ci := 1) (v := .int 1) (ty := .int) (C := R_Example) (T := F_Example) (N := 7) hx hb hts uw_Example t_Example t_Example_ok n_Example hown hK hP hD hS 2 rfl rfl 6 (by decide) (hts _ fl_Line_67) (fun _ h9 => h9) rfl (by decide +kernel) (rfl) (rfl) (Nat.le_of_ble_eq_true rfl) d_Line_readHead_28 (fun H locs hP hD hS => ?_)
    have hP : va_P D hq_cl ([hq_o2 h ta (nI len) ne pn lt sd fc, hq_ai ta (G 2) 100 t, hq_o1 x xa xb xc (nI k) 0 0 1, hq_ai xa (G 0) 12 fh, hq_ai xb (G 0) 12 fv, hq_ai xc (G 2) 12 fl] ++ Z) H := hP
    have hD : va_D A ([hq_o2 h ta (nI len) ne pn lt sd fc, hq_ai ta (G 2) 100 t, hq_o1 x xa xb xc (nI k) 0 0 1, hq_ai xa (G 0) 12 fh, hq_ai xb (G 0) 12 fv, hq_ai xc (G 2) 12 fl] ++ Z) := hD
    refine lv_aload_n hx hb d_Line_readHead_31 rfl (lv_at hl 3 rfl) ?_
    refine va_get (D := D) (ci := 1) (v := .int 0) (C := R_Example) (T := F_Example) (N := 7) hx hb hts uw_Example hown hK hP 2 rfl rfl 4 (by decide) (hts _ fl_Line_60) (fun _ h9 => h9) rfl d_Line_readHead_32 ?_
    refine lv_if_ne (tgt := 40) hx hb d_Line_readHead_35 rfl (fun c35 => ?_) (fun c35 => ?_)
    · exact absurd (by decide) c35
    · skip
      refine lv_iconst (v := 1) hx hb d_Line_readHead_38 (by decide) ?_
      have hP : va_P D hq_cl ([hq_o2 h ta (nI len) ne pn lt sd fc, hq_ai ta (G 2) 100 t, hq_o1 x xa xb xc (nI k) (hq_z (f_Line_readHead_o1 t j)) (f_Line_readHead_o2 t j) (f_Line_readHead_o3 t j), hq_ai xa (G 0) 12 fh, hq_ai xb (G 0) 12 fv, hq_ai xc (G 2) 12 fl] ++ Z) H := by rw [show hq_z (f_Line_readHead_o1 t j) = 0 by (rw [f_Line_readHead_o1, if_pos c10] <;> rfl), show f_Line_readHead_o2 t j = 0 by (rw [f_Line_readHead_o2, if_pos c10] <;> rfl), show f_Line_readHead_o3 t j = 1 by (rw [f_Line_readHead_o3, if_pos c10] <;> rfl)]; exact hP
      have hD : va_D A ([hq_o2 h ta (nI len) ne pn lt sd fc, hq_ai ta (G 2) 100 t, hq_o1 x xa xb xc (nI k) (hq_z (f_Line_readHead_o1 t j)) (f_Line_readHead_o2 t j) (f_Line_readHead_o3 t j), hq_ai xa (G 0) 12 fh, hq_ai xb (G 0) 12 fv, hq_ai xc (G 2) 12 fl] ++ Z) := by rw [show hq_z (f_Line_readHead_o1 t j) = 0 by (rw [f_Line_readHead_o1, if_pos c10] <;> rfl), show f_Line_readHead_o2 t j = 0 by (rw [f_Line_readHead_o2, if_pos c10] <;> rfl), show f_Line_readHead_o3 t j = 1 by (rw [f_Line_readHead_o3, if_pos c10] <;> rfl)]; exact hD
      exact hret 1 () H locs 39 ls d_Line_readHead_39 (by rw [f_Line_readHead, if_pos c10] <;> rfl) hP hD hS
  · -- 10 not taken
    have c10 : ¬ j ≤ (hq_skp t 32 0 (j - 0)) := fun h => c10 ((nI_leI (a := j) (b := hq_skp t 32 0 (j - 0)) (by omega) (by omega)).mpr h)
    refine lv_iconst (v := 1) hx hb d_Line_readHead_13 (by decide) ?_
    refine lv_goto (tgt := 18) hx hb d_Line_readHead_14 rfl ?_
    refine va_put (D := D) (ci := 1) (v := .int 1) (ty := .boolean) (C := R_Example) (T := F_Example) (N := 7) hx hb hts uw_Example t_Example t_Example_ok n_Example hown hK hP hD hS 2 rfl rfl 4 (by decide) (hts _ fl_Line_60) (fun _ h9 => h9) rfl (by decide +kernel) (by decide) (by decide) (Nat.le_of_ble_eq_true rfl) d_Line_readHead_18 (fun H locs hP hD hS => ?_)
    have hP : va_P D hq_cl ([hq_o2 h ta (nI len) ne pn lt sd fc, hq_ai ta (G 2) 100 t, hq_o1 x xa xb xc (nI k) 1 lb im, hq_ai xa (G 0) 12 fh, hq_ai xb (G 0) 12 fv, hq_ai xc (G 2) 12 fl] ++ Z) H := hP
    have hD : va_D A ([hq_o2 h ta (nI len) ne pn lt sd fc, hq_ai ta (G 2) 100 t, hq_o1 x xa xb xc (nI k) 1 lb im, hq_ai xa (G 0) 12 fh, hq_ai xb (G 0) 12 fv, hq_ai xc (G 2) 12 fl] ++ Z) := hD
    refine lv_aload_n hx hb d_Line_readHead_21 rfl (lv_at hl 3 rfl) ?_
    refine lv_iconst (v := 0) hx hb d_Line_readHead_22 (by decide) ?_
    refine va_put (D := D) (ci := 1) (v := .int 0) (ty := .int) (C := R_Example) (T := F_Example) (N := 7) hx hb hts uw_Example t_Example t_Example_ok n_Example hown hK hP hD hS 2 rfl rfl 5 (by decide) (hts _ fl_Line_64) (fun _ h9 => h9) rfl (by decide +kernel) (rfl) (rfl) (Nat.le_of_ble_eq_true rfl) d_Line_readHead_23 (fun H locs hP hD hS => ?_)
    have hP : va_P D hq_cl ([hq_o2 h ta (nI len) ne pn lt sd fc, hq_ai ta (G 2) 100 t, hq_o1 x xa xb xc (nI k) 1 0 im, hq_ai xa (G 0) 12 fh, hq_ai xb (G 0) 12 fv, hq_ai xc (G 2) 12 fl] ++ Z) H := hP
    have hD : va_D A ([hq_o2 h ta (nI len) ne pn lt sd fc, hq_ai ta (G 2) 100 t, hq_o1 x xa xb xc (nI k) 1 0 im, hq_ai xa (G 0) 12 fh, hq_ai xb (G 0) 12 fv, hq_ai xc (G 2) 12 fl] ++ Z) := hD
    refine lv_aload_n hx hb d_Line_readHead_26 rfl (lv_at hl 3 rfl) ?_
    refine lv_iconst (v := 1) hx hb d_Line_readHead_27 (by decide) ?_
    refine va_put (D := D) (ci := 1) (v := .int 1) (ty := .int) (C := R_Example) (T := F_Example) (N := 7) hx hb hts uw_Example t_Example t_Example_ok n_Example hown hK hP hD hS 2 rfl rfl 6 (by decide) (hts _ fl_Line_67) (fun _ h9 => h9) rfl (by decide +kernel) (rfl) (rfl) (Nat.le_of_ble_eq_true rfl) d_Line_readHead_28 (fun H locs hP hD hS => ?_)
    have hP : va_P D hq_cl ([hq_o2 h ta (nI len) ne pn lt sd fc, hq_ai ta (G 2) 100 t, hq_o1 x xa xb xc (nI k) 1 0 1, hq_ai xa (G 0) 12 fh, hq_ai xb (G 0) 12 fv, hq_ai xc (G 2) 12 fl] ++ Z) H := hP
    have hD : va_D A ([hq_o2 h ta (nI len) ne pn lt sd fc, hq_ai ta (G 2) 100 t, hq_o1 x xa xb xc (nI k) 1 0 1, hq_ai xa (G 0) 12 fh, hq_ai xb (G 0) 12 fv, hq_ai xc (G 2) 12 fl] ++ Z) := hD
    refine lv_aload_n hx hb d_Line_readHead_31 rfl (lv_at hl 3 rfl) ?_
    refine va_get (D := D) (ci := 1) (v := .int 1) (C := R_Example) (T := F_Example) (N := 7) hx hb hts uw_Example hown hK hP 2 rfl rfl 4 (by decide) (hts _ fl_Line_60) (fun _ h9 => h9) rfl d_Line_readHead_32 ?_
    refine lv_if_ne (tgt := 40) hx hb d_Line_readHead_35 rfl (fun c35 => ?_) (fun c35 => ?_)
    · skip
      refine lv_aload_n hx hb d_Line_readHead_40 rfl (lv_at hl 1 rfl) ?_
      refine lv_bipush (v := 32) hx hb d_Line_readHead_41 (by decide) ?_
      refine lv_iload_n hx hb d_Line_readHead_43 rfl (lv_at hl 0 rfl) ?_
      refine lv_iload_n hx hb d_Line_readHead_44 rfl (lv_at hl 2 rfl) ?_
      have hPc : va_P D hq_cl ([hq_o2 h ta (nI len) ne pn lt sd fc, hq_ai ta (G 2) 100 t] ++ ([hq_o1 x xa xb xc (nI k) 1 0 1, hq_ai xa (G 0) 12 fh, hq_ai xb (G 0) 12 fv, hq_ai xc (G 2) 12 fl] ++ Z)) H := hP
      have hDc : va_D A ([hq_o2 h ta (nI len) ne pn lt sd fc, hq_ai ta (G 2) 100 t] ++ ([hq_o1 x xa xb xc (nI k) 1 0 1, hq_ai xa (G 0) 12 fh, hq_ai xb (G 0) 12 fv, hq_ai xc (G 2) 12 fl] ++ Z)) := hD
      refine hq_iF (hq_rV (As := [.int 32, .int (nI (hq_skp t 32 0 (j - 0))), .int (nI j)]) (rest := []) hx hb hml hown hts (c_Line_find l D G A ([hq_o1 x xa xb xc (nI k) 1 0 1, hq_ai xa (G 0) 12 fh, hq_ai xb (G 0) 12 fv, hq_ai xc (G 2) 12 fl] ++ Z) h ta t len ne pn lt sd fc 32 (hq_skp t 32 0 (j - 0)) j (by first | assumption | omega) (by first | assumption | omega)) yy_Line_find lk_Line_39 hA hK hN hS hPc hDc 0 2 rfl rfl rfl hl.1 rfl (Nat.le_of_ble_eq_true rfl) d_Line_readHead_45 ⟨by decide, by decide⟩ ⟨by decide, by decide⟩) hS (fun H locs hP hD hS => ?_)
      have hP : va_P D hq_cl ([hq_o2 h ta (nI len) ne pn lt sd fc, hq_ai ta (G 2) 100 t, hq_o1 x xa xb xc (nI k) 1 0 1, hq_ai xa (G 0) 12 fh, hq_ai xb (G 0) 12 fv, hq_ai xc (G 2) 12 fl] ++ Z) H := hP
      have hD : va_D A ([hq_o2 h ta (nI len) ne pn lt sd fc, hq_ai ta (G 2) 100 t, hq_o1 x xa xb xc (nI k) 1 0 1, hq_ai xa (G 0) 12 fh, hq_ai xb (G 0) 12 fv, hq_ai xc (G 2) 12 fl] ++ Z) := hD
      have hp2 := hq_fnd_le t 32 (j - hq_skp t 32 0 (j - 0)) (hq_skp t 32 0 (j - 0))
      refine lv_istore (nL := 6) (lv' := [(4, .int (nI (hq_fnd t 32 (hq_skp t 32 0 (j - 0)) (j - (hq_skp t 32 0 (j - 0)))))), (3, .int (nI (hq_skp t 32 0 (j - 0)))), (0, .ref h), (1, .int (nI j)), (2, .ref x)]) hx hb d_Line_readHead_48 hl (by decide) rfl (fun ls hl => ?_)
      refine lv_aload_n hx hb d_Line_readHead_50 rfl (lv_at hl 4 rfl) ?_
      refine lv_aload_n hx hb d_Line_readHead_51 rfl (lv_at hl 2 rfl) ?_
      refine lv_iload_n hx hb d_Line_readHead_52 rfl (lv_at hl 1 rfl) ?_
      refine lv_iload hx hb d_Line_readHead_53 (lv_at hl 0 rfl) ?_
      have hPc : va_P D hq_cl ([hq_o2 h ta (nI len) ne pn lt sd fc, hq_ai ta (G 2) 100 t] ++ ([hq_o1 x xa xb xc (nI k) 1 0 1, hq_ai xa (G 0) 12 fh, hq_ai xb (G 0) 12 fv, hq_ai xc (G 2) 12 fl] ++ Z)) H := hP
      have hDc : va_D A ([hq_o2 h ta (nI len) ne pn lt sd fc, hq_ai ta (G 2) 100 t] ++ ([hq_o1 x xa xb xc (nI k) 1 0 1, hq_ai xa (G 0) 12 fh, hq_ai xb (G 0) 12 fv, hq_ai xc (G 2) 12 fl] ++ Z)) := hD
      refine hq_iF (hq_rV (As := [.int (nI (hq_skp t 32 0 (j - 0))), .int (nI (hq_fnd t 32 (hq_skp t 32 0 (j - 0)) (j - (hq_skp t 32 0 (j - 0)))))]) (rest := [.ref x]) hx hb hml hown hts (c_Line_readNumber l D G A ([hq_o1 x xa xb xc (nI k) 1 0 1, hq_ai xa (G 0) 12 fh, hq_ai xb (G 0) 12 fv, hq_ai xc (G 2) 12 fl] ++ Z) h ta t len ne pn lt sd fc (hq_skp t 32 0 (j - 0)) (hq_fnd t 32 (hq_skp t 32 0 (j - 0)) (j - (hq_skp t 32 0 (j - 0)))) (by first | assumption | omega) (by first | assumption | omega) (by first | assumption | omega)) yy_Line_readNumber lk_Line_70 hA hK hN hS hPc hDc 0 2 rfl rfl rfl hl.1 rfl (Nat.le_of_ble_eq_true rfl) d_Line_readHead_55 ⟨by decide, by decide⟩ ⟨by decide, by decide⟩) hS (fun H locs hP hD hS => ?_)
      have hP : va_P D hq_cl ([hq_o2 h ta (nI len) ne pn lt sd fc, hq_ai ta (G 2) 100 t, hq_o1 x xa xb xc (nI k) 1 0 1, hq_ai xa (G 0) 12 fh, hq_ai xb (G 0) 12 fv, hq_ai xc (G 2) 12 fl] ++ Z) H := hP
      have hD : va_D A ([hq_o2 h ta (nI len) ne pn lt sd fc, hq_ai ta (G 2) 100 t, hq_o1 x xa xb xc (nI k) 1 0 1, hq_ai xa (G 0) 12 fh, hq_ai xb (G 0) 12 fv, hq_ai xc (G 2) 12 fl] ++ Z) := hD
      refine va_put (D := D) (ci := 1) (v := .int (hq_numC t (hq_skp t 32 0 (j - 0)) (hq_fnd t 32 (hq_skp t 32 0 (j - 0)) (j - (hq_skp t 32 0 (j - 0)))))) (ty := .int) (C := R_Example) (T := F_Example) (N := 7) hx hb hts uw_Example t_Example t_Example_ok n_Example hown hK hP hD hS 2 rfl rfl 5 (by decide) (hts _ fl_Line_64) (fun _ h9 => h9) rfl (by decide +kernel) (rfl) (rfl) (Nat.le_of_ble_eq_true rfl) d_Line_readHead_58 (fun H locs hP hD hS => ?_)
      have hP : va_P D hq_cl ([hq_o2 h ta (nI len) ne pn lt sd fc, hq_ai ta (G 2) 100 t, hq_o1 x xa xb xc (nI k) 1 (hq_numC t (hq_skp t 32 0 (j - 0)) (hq_fnd t 32 (hq_skp t 32 0 (j - 0)) (j - (hq_skp t 32 0 (j - 0))))) 1, hq_ai xa (G 0) 12 fh, hq_ai xb (G 0) 12 fv, hq_ai xc (G 2) 12 fl] ++ Z) H := hP
      have hD : va_D A ([hq_o2 h ta (nI len) ne pn lt sd fc, hq_ai ta (G 2) 100 t, hq_o1 x xa xb xc (nI k) 1 (hq_numC t (hq_skp t 32 0 (j - 0)) (hq_fnd t 32 (hq_skp t 32 0 (j - 0)) (j - (hq_skp t 32 0 (j - 0))))) 1, hq_ai xa (G 0) 12 fh, hq_ai xb (G 0) 12 fv, hq_ai xc (G 2) 12 fl] ++ Z) := hD
      refine lv_aload_n hx hb d_Line_readHead_61 rfl (lv_at hl 2 rfl) ?_
      refine lv_iload hx hb d_Line_readHead_62 (lv_at hl 0 rfl) ?_
      refine lv_iload_n hx hb d_Line_readHead_64 rfl (lv_at hl 3 rfl) ?_
      have hPc : va_P D hq_cl ([hq_o2 h ta (nI len) ne pn lt sd fc, hq_ai ta (G 2) 100 t] ++ ([hq_o1 x xa xb xc (nI k) 1 (hq_numC t (hq_skp t 32 0 (j - 0)) (hq_fnd t 32 (hq_skp t 32 0 (j - 0)) (j - (hq_skp t 32 0 (j - 0))))) 1, hq_ai xa (G 0) 12 fh, hq_ai xb (G 0) 12 fv, hq_ai xc (G 2) 12 fl] ++ Z)) H := hP
      have hDc : va_D A ([hq_o2 h ta (nI len) ne pn lt sd fc, hq_ai ta (G 2) 100 t] ++ ([hq_o1 x xa xb xc (nI k) 1 (hq_numC t (hq_skp t 32 0 (j - 0)) (hq_fnd t 32 (hq_skp t 32 0 (j - 0)) (j - (hq_skp t 32 0 (j - 0))))) 1, hq_ai xa (G 0) 12 fh, hq_ai xb (G 0) 12 fv, hq_ai xc (G 2) 12 fl] ++ Z)) := hD
      refine hq_iF (hq_rV (As := [.int (nI (hq_fnd t 32 (hq_skp t 32 0 (j - 0)) (j - (hq_skp t 32 0 (j - 0))))), .int (nI j)]) (rest := []) hx hb hml hown hts (c_Line_skipSpaces l D G A ([hq_o1 x xa xb xc (nI k) 1 (hq_numC t (hq_skp t 32 0 (j - 0)) (hq_fnd t 32 (hq_skp t 32 0 (j - 0)) (j - (hq_skp t 32 0 (j - 0))))) 1, hq_ai xa (G 0) 12 fh, hq_ai xb (G 0) 12 fv, hq_ai xc (G 2) 12 fl] ++ Z) h ta t len ne pn lt sd fc (hq_fnd t 32 (hq_skp t 32 0 (j - 0)) (j - (hq_skp t 32 0 (j - 0)))) j (by first | assumption | omega) (by first | assumption | omega)) yy_Line_skipSpaces lk_Line_56 hA hK hN hS hPc hDc 0 2 rfl rfl rfl hl.1 rfl (Nat.le_of_ble_eq_true rfl) d_Line_readHead_65 ⟨by decide, by decide⟩ ⟨by decide, by decide⟩) hS (fun H locs hP hD hS => ?_)
      have hP : va_P D hq_cl ([hq_o2 h ta (nI len) ne pn lt sd fc, hq_ai ta (G 2) 100 t, hq_o1 x xa xb xc (nI k) 1 (hq_numC t (hq_skp t 32 0 (j - 0)) (hq_fnd t 32 (hq_skp t 32 0 (j - 0)) (j - (hq_skp t 32 0 (j - 0))))) 1, hq_ai xa (G 0) 12 fh, hq_ai xb (G 0) 12 fv, hq_ai xc (G 2) 12 fl] ++ Z) H := hP
      have hD : va_D A ([hq_o2 h ta (nI len) ne pn lt sd fc, hq_ai ta (G 2) 100 t, hq_o1 x xa xb xc (nI k) 1 (hq_numC t (hq_skp t 32 0 (j - 0)) (hq_fnd t 32 (hq_skp t 32 0 (j - 0)) (j - (hq_skp t 32 0 (j - 0))))) 1, hq_ai xa (G 0) 12 fh, hq_ai xb (G 0) 12 fv, hq_ai xc (G 2) 12 fl] ++ Z) := hD
      have hp3 := hq_skp_le t 32 (j - hq_fnd t 32 (hq_skp t 32 0 (j - 0)) (j - hq_skp t 32 0 (j - 0))) (hq_fnd t 32 (hq_skp t 32 0 (j - 0)) (j - hq_skp t 32 0 (j - 0)))
      refine lv_istore (nL := 6) (lv' := [(5, .int (nI (hq_skp t 32 (hq_fnd t 32 (hq_skp t 32 0 (j - 0)) (j - (hq_skp t 32 0 (j - 0)))) (j - (hq_fnd t 32 (hq_skp t 32 0 (j - 0)) (j - (hq_skp t 32 0 (j - 0)))))))), (4, .int (nI (hq_fnd t 32 (hq_skp t 32 0 (j - 0)) (j - (hq_skp t 32 0 (j - 0)))))), (3, .int (nI (hq_skp t 32 0 (j - 0)))), (0, .ref h), (1, .int (nI j)), (2, .ref x)]) hx hb d_Line_readHead_68 hl (by decide) rfl (fun ls hl => ?_)
      refine lv_aload_n hx hb d_Line_readHead_70 rfl (lv_at hl 5 rfl) ?_
      refine va_get (D := D) (ci := 1) (v := .int (hq_numC t (hq_skp t 32 0 (j - 0)) (hq_fnd t 32 (hq_skp t 32 0 (j - 0)) (j - (hq_skp t 32 0 (j - 0)))))) (C := R_Example) (T := F_Example) (N := 7) hx hb hts uw_Example hown hK hP 2 rfl rfl 5 (by decide) (hts _ fl_Line_64) (fun _ h9 => h9) rfl d_Line_readHead_71 ?_
      refine lv_ldc (v := (-2147483648)) hx hb hown (hts _ ki_Line_73) d_Line_readHead_74 ?_
      refine lv_icmp_eq (tgt := 100) hx hb d_Line_readHead_76 rfl (fun c76 => ?_) (fun c76 => ?_)
      · -- 76 taken
        have c76 : (hq_numC t (hq_skp t 32 0 (j - 0)) (hq_fnd t 32 (hq_skp t 32 0 (j - 0)) (j - (hq_skp t 32 0 (j - 0))))) = (-2147483648) := c76
        refine lv_iconst (v := 0) hx hb d_Line_readHead_100 (by decide) ?_
        have hP : va_P D hq_cl ([hq_o2 h ta (nI len) ne pn lt sd fc, hq_ai ta (G 2) 100 t, hq_o1 x xa xb xc (nI k) (hq_z (f_Line_readHead_o1 t j)) (f_Line_readHead_o2 t j) (f_Line_readHead_o3 t j), hq_ai xa (G 0) 12 fh, hq_ai xb (G 0) 12 fv, hq_ai xc (G 2) 12 fl] ++ Z) H := by rw [show hq_z (f_Line_readHead_o1 t j) = 1 by (rw [f_Line_readHead_o1, if_neg c10] <;> rfl), show f_Line_readHead_o2 t j = hq_numC t (hq_skp t 32 0 (j - 0)) (hq_fnd t 32 (hq_skp t 32 0 (j - 0)) (j - (hq_skp t 32 0 (j - 0)))) by (rw [f_Line_readHead_o2, if_neg c10] <;> rfl), show f_Line_readHead_o3 t j = 1 by (rw [f_Line_readHead_o3, if_neg c10, if_pos c76] <;> rfl)]; exact hP
        have hD : va_D A ([hq_o2 h ta (nI len) ne pn lt sd fc, hq_ai ta (G 2) 100 t, hq_o1 x xa xb xc (nI k) (hq_z (f_Line_readHead_o1 t j)) (f_Line_readHead_o2 t j) (f_Line_readHead_o3 t j), hq_ai xa (G 0) 12 fh, hq_ai xb (G 0) 12 fv, hq_ai xc (G 2) 12 fl] ++ Z) := by rw [show hq_z (f_Line_readHead_o1 t j) = 1 by (rw [f_Line_readHead_o1, if_neg c10] <;> rfl), show f_Line_readHead_o2 t j = hq_numC t (hq_skp t 32 0 (j - 0)) (hq_fnd t 32 (hq_skp t 32 0 (j - 0)) (j - (hq_skp t 32 0 (j - 0)))) by (rw [f_Line_readHead_o2, if_neg c10] <;> rfl), show f_Line_readHead_o3 t j = 1 by (rw [f_Line_readHead_o3, if_neg c10, if_pos c76] <;> rfl)]; exact hD
        exact hret 0 () H locs 101 ls d_Line_readHead_101 (by rw [f_Line_readHead, if_neg c10, if_pos c76] <;> rfl) hP hD hS
      · -- 76 not taken
        have c76 : ¬ (hq_numC t (hq_skp t 32 0 (j - 0)) (hq_fnd t 32 (hq_skp t 32 0 (j - 0)) (j - (hq_skp t 32 0 (j - 0))))) = (-2147483648) := c76
        refine lv_iload hx hb d_Line_readHead_79 (lv_at hl 0 rfl) ?_
        refine lv_iload_n hx hb d_Line_readHead_81 rfl (lv_at hl 4 rfl) ?_
        refine lv_icmp_eq (tgt := 96) hx hb d_Line_readHead_82 rfl (fun c82 => ?_) (fun c82 => ?_)
        · -- 82 taken
          have c82 : (hq_skp t 32 (hq_fnd t 32 (hq_skp t 32 0 (j - 0)) (j - (hq_skp t 32 0 (j - 0)))) (j - (hq_fnd t 32 (hq_skp t 32 0 (j - 0)) (j - (hq_skp t 32 0 (j - 0)))))) = j := (nI_eq (a := hq_skp t 32 (hq_fnd t 32 (hq_skp t 32 0 (j - 0)) (j - (hq_skp t 32 0 (j - 0)))) (j - (hq_fnd t 32 (hq_skp t 32 0 (j - 0)) (j - (hq_skp t 32 0 (j - 0)))))) (b := j) (by omega) (by omega)).mp c82
          refine lv_iconst (v := 1) hx hb d_Line_readHead_96 (by decide) ?_
          refine lv_goto (tgt := 101) hx hb d_Line_readHead_97 rfl ?_
          have hP : va_P D hq_cl ([hq_o2 h ta (nI len) ne pn lt sd fc, hq_ai ta (G 2) 100 t, hq_o1 x xa xb xc (nI k) (hq_z (f_Line_readHead_o1 t j)) (f_Line_readHead_o2 t j) (f_Line_readHead_o3 t j), hq_ai xa (G 0) 12 fh, hq_ai xb (G 0) 12 fv, hq_ai xc (G 2) 12 fl] ++ Z) H := by rw [show hq_z (f_Line_readHead_o1 t j) = 1 by (rw [f_Line_readHead_o1, if_neg c10] <;> rfl), show f_Line_readHead_o2 t j = hq_numC t (hq_skp t 32 0 (j - 0)) (hq_fnd t 32 (hq_skp t 32 0 (j - 0)) (j - (hq_skp t 32 0 (j - 0)))) by (rw [f_Line_readHead_o2, if_neg c10] <;> rfl), show f_Line_readHead_o3 t j = 1 by (rw [f_Line_readHead_o3, if_neg c10, if_neg c76, if_pos c82] <;> rfl)]; exact hP
          have hD : va_D A ([hq_o2 h ta (nI len) ne pn lt sd fc, hq_ai ta (G 2) 100 t, hq_o1 x xa xb xc (nI k) (hq_z (f_Line_readHead_o1 t j)) (f_Line_readHead_o2 t j) (f_Line_readHead_o3 t j), hq_ai xa (G 0) 12 fh, hq_ai xb (G 0) 12 fv, hq_ai xc (G 2) 12 fl] ++ Z) := by rw [show hq_z (f_Line_readHead_o1 t j) = 1 by (rw [f_Line_readHead_o1, if_neg c10] <;> rfl), show f_Line_readHead_o2 t j = hq_numC t (hq_skp t 32 0 (j - 0)) (hq_fnd t 32 (hq_skp t 32 0 (j - 0)) (j - (hq_skp t 32 0 (j - 0)))) by (rw [f_Line_readHead_o2, if_neg c10] <;> rfl), show f_Line_readHead_o3 t j = 1 by (rw [f_Line_readHead_o3, if_neg c10, if_neg c76, if_pos c82] <;> rfl)]; exact hD
          exact hret 1 () H locs 101 ls d_Line_readHead_101 (by rw [f_Line_readHead, if_neg c10, if_neg c76, if_pos c82] <;> rfl) hP hD hS
        · -- 82 not taken
          have c82 : ¬ (hq_skp t 32 (hq_fnd t 32 (hq_skp t 32 0 (j - 0)) (j - (hq_skp t 32 0 (j - 0)))) (j - (hq_fnd t 32 (hq_skp t 32 0 (j - 0)) (j - (hq_skp t 32 0 (j - 0)))))) = j := fun h => c82 ((nI_eq (a := hq_skp t 32 (hq_fnd t 32 (hq_skp t 32 0 (j - 0)) (j - (hq_skp t 32 0 (j - 0)))) (j - (hq_fnd t 32 (hq_skp t 32 0 (j - 0)) (j - (hq_skp t 32 0 (j - 0)))))) (b := j) (by omega) (by omega)).mpr h)
          refine lv_aload_n hx hb d_Line_readHead_85 rfl (lv_at hl 3 rfl) ?_
          refine lv_iload hx hb d_Line_readHead_86 (lv_at hl 0 rfl) ?_
          refine lv_iload_n hx hb d_Line_readHead_88 rfl (lv_at hl 4 rfl) ?_
          refine lv_aload_n hx hb d_Line_readHead_89 rfl (lv_at hl 5 rfl) ?_
          have hPc : va_P D hq_cl ([hq_o2 h ta (nI len) ne pn lt sd fc, hq_ai ta (G 2) 100 t, hq_o1 x xa xb xc (nI k) 1 (hq_numC t (hq_skp t 32 0 (j - 0)) (hq_fnd t 32 (hq_skp t 32 0 (j - 0)) (j - (hq_skp t 32 0 (j - 0))))) 1, hq_ai xa (G 0) 12 fh, hq_ai xb (G 0) 12 fv, hq_ai xc (G 2) 12 fl] ++ Z) H := hP
          have hDc : va_D A ([hq_o2 h ta (nI len) ne pn lt sd fc, hq_ai ta (G 2) 100 t, hq_o1 x xa xb xc (nI k) 1 (hq_numC t (hq_skp t 32 0 (j - 0)) (hq_fnd t 32 (hq_skp t 32 0 (j - 0)) (j - (hq_skp t 32 0 (j - 0))))) 1, hq_ai xa (G 0) 12 fh, hq_ai xb (G 0) 12 fv, hq_ai xc (G 2) 12 fl] ++ Z) := hD
          refine hq_iF (hq_rV (As := [.int (nI (hq_skp t 32 (hq_fnd t 32 (hq_skp t 32 0 (j - 0)) (j - (hq_skp t 32 0 (j - 0)))) (j - (hq_fnd t 32 (hq_skp t 32 0 (j - 0)) (j - (hq_skp t 32 0 (j - 0))))))), .int (nI j), .ref x]) (rest := []) hx hb hml hown hts (c_Line_readImportance l D G A Z h ta t len ne pn lt sd fc x xa xb xc fh fv fl k true (hq_numC t (hq_skp t 32 0 (j - 0)) (hq_fnd t 32 (hq_skp t 32 0 (j - 0)) (j - (hq_skp t 32 0 (j - 0))))) 1 (hq_skp t 32 (hq_fnd t 32 (hq_skp t 32 0 (j - 0)) (j - (hq_skp t 32 0 (j - 0)))) (j - (hq_fnd t 32 (hq_skp t 32 0 (j - 0)) (j - (hq_skp t 32 0 (j - 0)))))) j (by first | assumption | omega) (by first | assumption | omega) (by first | assumption | omega)) yy_Line_readImportance lk_Line_74 hA hK hN hS hPc hDc 0 2 rfl rfl rfl hl.1 rfl (Nat.le_of_ble_eq_true rfl) d_Line_readHead_90 ⟨by decide, by decide⟩ ⟨by decide, by decide⟩) hS (fun H locs hP hD hS => ?_)
          have hP : va_P D hq_cl ([hq_o2 h ta (nI len) ne pn lt sd fc, hq_ai ta (G 2) 100 t, hq_o1 x xa xb xc (nI k) (hq_z true) (hq_numC t (hq_skp t 32 0 (j - 0)) (hq_fnd t 32 (hq_skp t 32 0 (j - 0)) (j - (hq_skp t 32 0 (j - 0))))) ((t (hq_skp t 32 (hq_fnd t 32 (hq_skp t 32 0 (j - 0)) (j - (hq_skp t 32 0 (j - 0)))) (j - (hq_fnd t 32 (hq_skp t 32 0 (j - 0)) (j - (hq_skp t 32 0 (j - 0))))))) - 48), hq_ai xa (G 0) 12 fh, hq_ai xb (G 0) 12 fv, hq_ai xc (G 2) 12 fl] ++ Z) H := hP
          have hD : va_D A ([hq_o2 h ta (nI len) ne pn lt sd fc, hq_ai ta (G 2) 100 t, hq_o1 x xa xb xc (nI k) (hq_z true) (hq_numC t (hq_skp t 32 0 (j - 0)) (hq_fnd t 32 (hq_skp t 32 0 (j - 0)) (j - (hq_skp t 32 0 (j - 0))))) ((t (hq_skp t 32 (hq_fnd t 32 (hq_skp t 32 0 (j - 0)) (j - (hq_skp t 32 0 (j - 0)))) (j - (hq_fnd t 32 (hq_skp t 32 0 (j - 0)) (j - (hq_skp t 32 0 (j - 0))))))) - 48), hq_ai xa (G 0) 12 fh, hq_ai xb (G 0) 12 fv, hq_ai xc (G 2) 12 fl] ++ Z) := hD
          refine lv_if_eq (tgt := 100) hx hb d_Line_readHead_93 rfl (fun c93 => ?_) (fun c93 => ?_)
          · -- 93 taken
            have c93 : ¬ (f_Line_readImportance t (hq_skp t 32 (hq_fnd t 32 (hq_skp t 32 0 (j - 0)) (j - (hq_skp t 32 0 (j - 0)))) (j - (hq_fnd t 32 (hq_skp t 32 0 (j - 0)) (j - (hq_skp t 32 0 (j - 0)))))) j) = true := by rw [hq_z0.mp c93]; decide
            refine lv_iconst (v := 0) hx hb d_Line_readHead_100 (by decide) ?_
            have hP : va_P D hq_cl ([hq_o2 h ta (nI len) ne pn lt sd fc, hq_ai ta (G 2) 100 t, hq_o1 x xa xb xc (nI k) (hq_z (f_Line_readHead_o1 t j)) (f_Line_readHead_o2 t j) (f_Line_readHead_o3 t j), hq_ai xa (G 0) 12 fh, hq_ai xb (G 0) 12 fv, hq_ai xc (G 2) 12 fl] ++ Z) H := by rw [show hq_z (f_Line_readHead_o1 t j) = hq_z true by (rw [f_Line_readHead_o1, if_neg c10] <;> rfl), show f_Line_readHead_o2 t j = hq_numC t (hq_skp t 32 0 (j - 0)) (hq_fnd t 32 (hq_skp t 32 0 (j - 0)) (j - (hq_skp t 32 0 (j - 0)))) by (rw [f_Line_readHead_o2, if_neg c10] <;> rfl), show f_Line_readHead_o3 t j = (t (hq_skp t 32 (hq_fnd t 32 (hq_skp t 32 0 (j - 0)) (j - (hq_skp t 32 0 (j - 0)))) (j - (hq_fnd t 32 (hq_skp t 32 0 (j - 0)) (j - (hq_skp t 32 0 (j - 0))))))) - 48 by (rw [f_Line_readHead_o3, if_neg c10, if_neg c76, if_neg c82] <;> rfl)]; exact hP
            have hD : va_D A ([hq_o2 h ta (nI len) ne pn lt sd fc, hq_ai ta (G 2) 100 t, hq_o1 x xa xb xc (nI k) (hq_z (f_Line_readHead_o1 t j)) (f_Line_readHead_o2 t j) (f_Line_readHead_o3 t j), hq_ai xa (G 0) 12 fh, hq_ai xb (G 0) 12 fv, hq_ai xc (G 2) 12 fl] ++ Z) := by rw [show hq_z (f_Line_readHead_o1 t j) = hq_z true by (rw [f_Line_readHead_o1, if_neg c10] <;> rfl), show f_Line_readHead_o2 t j = hq_numC t (hq_skp t 32 0 (j - 0)) (hq_fnd t 32 (hq_skp t 32 0 (j - 0)) (j - (hq_skp t 32 0 (j - 0)))) by (rw [f_Line_readHead_o2, if_neg c10] <;> rfl), show f_Line_readHead_o3 t j = (t (hq_skp t 32 (hq_fnd t 32 (hq_skp t 32 0 (j - 0)) (j - (hq_skp t 32 0 (j - 0)))) (j - (hq_fnd t 32 (hq_skp t 32 0 (j - 0)) (j - (hq_skp t 32 0 (j - 0))))))) - 48 by (rw [f_Line_readHead_o3, if_neg c10, if_neg c76, if_neg c82] <;> rfl)]; exact hD
            exact hret 0 () H locs 101 ls d_Line_readHead_101 (by rw [f_Line_readHead, if_neg c10, if_neg c76, if_neg c82, if_neg c93] <;> rfl) hP hD hS
          · -- 93 not taken
            have c93 : (f_Line_readImportance t (hq_skp t 32 (hq_fnd t 32 (hq_skp t 32 0 (j - 0)) (j - (hq_skp t 32 0 (j - 0)))) (j - (hq_fnd t 32 (hq_skp t 32 0 (j - 0)) (j - (hq_skp t 32 0 (j - 0)))))) j) = true := hq_zn.mp c93
            refine lv_iconst (v := 1) hx hb d_Line_readHead_96 (by decide) ?_
            refine lv_goto (tgt := 101) hx hb d_Line_readHead_97 rfl ?_
            have hP : va_P D hq_cl ([hq_o2 h ta (nI len) ne pn lt sd fc, hq_ai ta (G 2) 100 t, hq_o1 x xa xb xc (nI k) (hq_z (f_Line_readHead_o1 t j)) (f_Line_readHead_o2 t j) (f_Line_readHead_o3 t j), hq_ai xa (G 0) 12 fh, hq_ai xb (G 0) 12 fv, hq_ai xc (G 2) 12 fl] ++ Z) H := by rw [show hq_z (f_Line_readHead_o1 t j) = hq_z true by (rw [f_Line_readHead_o1, if_neg c10] <;> rfl), show f_Line_readHead_o2 t j = hq_numC t (hq_skp t 32 0 (j - 0)) (hq_fnd t 32 (hq_skp t 32 0 (j - 0)) (j - (hq_skp t 32 0 (j - 0)))) by (rw [f_Line_readHead_o2, if_neg c10] <;> rfl), show f_Line_readHead_o3 t j = (t (hq_skp t 32 (hq_fnd t 32 (hq_skp t 32 0 (j - 0)) (j - (hq_skp t 32 0 (j - 0)))) (j - (hq_fnd t 32 (hq_skp t 32 0 (j - 0)) (j - (hq_skp t 32 0 (j - 0))))))) - 48 by (rw [f_Line_readHead_o3, if_neg c10, if_neg c76, if_neg c82] <;> rfl)]; exact hP
            have hD : va_D A ([hq_o2 h ta (nI len) ne pn lt sd fc, hq_ai ta (G 2) 100 t, hq_o1 x xa xb xc (nI k) (hq_z (f_Line_readHead_o1 t j)) (f_Line_readHead_o2 t j) (f_Line_readHead_o3 t j), hq_ai xa (G 0) 12 fh, hq_ai xb (G 0) 12 fv, hq_ai xc (G 2) 12 fl] ++ Z) := by rw [show hq_z (f_Line_readHead_o1 t j) = hq_z true by (rw [f_Line_readHead_o1, if_neg c10] <;> rfl), show f_Line_readHead_o2 t j = hq_numC t (hq_skp t 32 0 (j - 0)) (hq_fnd t 32 (hq_skp t 32 0 (j - 0)) (j - (hq_skp t 32 0 (j - 0)))) by (rw [f_Line_readHead_o2, if_neg c10] <;> rfl), show f_Line_readHead_o3 t j = (t (hq_skp t 32 (hq_fnd t 32 (hq_skp t 32 0 (j - 0)) (j - (hq_skp t 32 0 (j - 0)))) (j - (hq_fnd t 32 (hq_skp t 32 0 (j - 0)) (j - (hq_skp t 32 0 (j - 0))))))) - 48 by (rw [f_Line_readHead_o3, if_neg c10, if_neg c76, if_neg c82] <;> rfl)]; exact hD
            exact hret 1 () H locs 101 ls d_Line_readHead_101 (by rw [f_Line_readHead, if_neg c10, if_neg c76, if_neg c82, if_pos c93] <;> rfl) hP hD hS
    · exact absurd c35 (by decide)
theorem d_Tally_addReport_0 : decode b_Tally_addReport 0 = .ok (.aload_n 0, 1) := by decide +kernel
theorem d_Tally_addReport_1 : decode b_Tally_addReport 1 = .ok (.getfield 9, 3) := by decide +kernel
theorem d_Tally_addReport_4 : decode b_Tally_addReport 4 = .ok (.aload_n 0, 1) := by decide +kernel
theorem d_Tally_addReport_5 : decode b_Tally_addReport 5 = .ok (.getfield 15, 3) := by decide +kernel
theorem d_Tally_addReport_8 : decode b_Tally_addReport 8 = .ok (.aload_n 0, 1) := by decide +kernel
theorem d_Tally_addReport_9 : decode b_Tally_addReport 9 = .ok (.getfield 29, 3) := by decide +kernel
theorem d_Tally_addReport_12 : decode b_Tally_addReport 12 = .ok (.lconst 0, 1) := by decide +kernel
theorem d_Tally_addReport_13 : decode b_Tally_addReport 13 = .ok (.lcmp, 1) := by decide +kernel
theorem d_Tally_addReport_14 : decode b_Tally_addReport 14 = .ok (.ifCond .le (15), 3) := by decide +kernel
theorem d_Tally_addReport_17 : decode b_Tally_addReport 17 = .ok (.aload_n 0, 1) := by decide +kernel
theorem d_Tally_addReport_18 : decode b_Tally_addReport 18 = .ok (.getfield 26, 3) := by decide +kernel
theorem d_Tally_addReport_21 : decode b_Tally_addReport 21 = .ok (.aload_n 0, 1) := by decide +kernel
theorem d_Tally_addReport_22 : decode b_Tally_addReport 22 = .ok (.getfield 29, 3) := by decide +kernel
theorem d_Tally_addReport_25 : decode b_Tally_addReport 25 = .ok (.ldiv, 1) := by decide +kernel
theorem d_Tally_addReport_26 : decode b_Tally_addReport 26 = .ok (.goto (4), 3) := by decide +kernel
theorem d_Tally_addReport_29 : decode b_Tally_addReport 29 = .ok (.lconst 0, 1) := by decide +kernel
theorem d_Tally_addReport_30 : decode b_Tally_addReport 30 = .ok (.lastore, 1) := by decide +kernel
theorem d_Tally_addReport_31 : decode b_Tally_addReport 31 = .ok (.aload_n 0, 1) := by decide +kernel
theorem d_Tally_addReport_32 : decode b_Tally_addReport 32 = .ok (.dup, 1) := by decide +kernel
theorem d_Tally_addReport_33 : decode b_Tally_addReport 33 = .ok (.getfield 15, 3) := by decide +kernel
theorem d_Tally_addReport_36 : decode b_Tally_addReport 36 = .ok (.iconst 1, 1) := by decide +kernel
theorem d_Tally_addReport_37 : decode b_Tally_addReport 37 = .ok (.iadd, 1) := by decide +kernel
theorem d_Tally_addReport_38 : decode b_Tally_addReport 38 = .ok (.putfield 15, 3) := by decide +kernel
theorem d_Tally_addReport_41 : decode b_Tally_addReport 41 = .ok (.aload_n 0, 1) := by decide +kernel
theorem d_Tally_addReport_42 : decode b_Tally_addReport 42 = .ok (.lconst 0, 1) := by decide +kernel
theorem d_Tally_addReport_43 : decode b_Tally_addReport 43 = .ok (.putfield 26, 3) := by decide +kernel
theorem d_Tally_addReport_46 : decode b_Tally_addReport 46 = .ok (.aload_n 0, 1) := by decide +kernel
theorem d_Tally_addReport_47 : decode b_Tally_addReport 47 = .ok (.lconst 0, 1) := by decide +kernel
theorem d_Tally_addReport_48 : decode b_Tally_addReport 48 = .ok (.putfield 29, 3) := by decide +kernel
theorem d_Tally_addReport_51 : decode b_Tally_addReport 51 = .ok (.return_, 1) := by decide +kernel
def f_Tally_addReport_o4 (rp : Nat → Int64) (rc : Nat) (cs : Int64) (is : Int64) : Nat → Int64 := if is ≤ 0 then vp_updL rp rc 0 else vp_updL rp rc (cs / is)
set_option maxHeartbeats 4000000 in
set_option maxRecDepth 100000 in
theorem c_Tally_addReport (l : Launch) (D : va_G) (G : Nat → ClassId) (A : Nat → Prop) (Z : va_W) (h : Nat) (ra : Nat) (rp : Nat → Int64) (rc : Nat) (tt : Int64) (es : Int32) (cs : Int64) (is : Int64) (hrc : rc < 31) : hq_FV l D G A y_Tally_addReport b_Tally_addReport 1 0 [.ref h] ([hq_o5 h ra (nI rc) tt es cs is, hq_al ra (G 1) 31 rp] ++ Z) ([hq_o5 h ra (nI (rc + 1)) tt es 0 0, hq_al ra (G 1) 31 (f_Tally_addReport_o4 rp rc cs is)] ++ Z) := by
  refine hq_bV (by decide) (Nat.le_of_ble_eq_true rfl) ?_
  intro p e s m args below meth c Q hx hb hml hts hown hA hK hN hin hret ls H locs hl hP hD hS
  have hown : s.vm.findClass "HashedLearner$Tally" = some m.cls := hown
  have hl : lv_has ls 1 [(0, .ref h)] := hl
  refine lv_aload_n hx hb d_Tally_addReport_0 rfl (lv_at hl 0 rfl) ?_
  refine va_get (D := D) (ci := 5) (v := .ref ra) (C := R_Tally) (T := F_Tally) (N := 6) hx hb hts uw_Tally hown hK hP 0 rfl rfl 0 (by decide) (hts _ fl_Tally_9) (fun _ h9 => h9) rfl d_Tally_addReport_1 ?_
  refine lv_aload_n hx hb d_Tally_addReport_4 rfl (lv_at hl 0 rfl) ?_
  refine va_get (D := D) (ci := 5) (v := .int (nI rc)) (C := R_Tally) (T := F_Tally) (N := 6) hx hb hts uw_Tally hown hK hP 0 rfl rfl 1 (by decide) (hts _ fl_Tally_15) (fun _ h9 => h9) rfl d_Tally_addReport_5 ?_
  refine lv_aload_n hx hb d_Tally_addReport_8 rfl (lv_at hl 0 rfl) ?_
  refine va_get (D := D) (ci := 5) (v := .long is) (C := R_Tally) (T := F_Tally) (N := 6) hx hb hts uw_Tally hown hK hP 0 rfl rfl 5 (by decide) (hts _ fl_Tally_29) (fun _ h9 => h9) rfl d_Tally_addReport_9 ?_
  refine lv_lconst (v := 0) hx hb d_Tally_addReport_12 (by decide) ?_
  refine W.lcmp hx hb d_Tally_addReport_13 ?_
  refine lv_if_le (tgt := 29) hx hb d_Tally_addReport_14 rfl (fun c14 => ?_) (fun c14 => ?_)
  · -- 14 taken
    have c14 : is ≤ 0 := (lg_cmp_le is 0).mp c14
    refine lv_lconst (v := 0) hx hb d_Tally_addReport_29 (by decide) ?_
    refine hq_last (j := rc) hx hb hK hP hD hS 1 rfl (by omega) (by omega) d_Tally_addReport_30 (fun H locs hP hD hS => ?_)
    have hP : va_P D hq_cl ([hq_o5 h ra (nI rc) tt es cs is, hq_al ra (G 1) 31 (vp_updL rp rc 0)] ++ Z) H := hP
    have hD : va_D A ([hq_o5 h ra (nI rc) tt es cs is, hq_al ra (G 1) 31 (vp_updL rp rc 0)] ++ Z) := hD
    refine lv_aload_n hx hb d_Tally_addReport_31 rfl (lv_at hl 0 rfl) ?_
    refine lv_dup hx hb d_Tally_addReport_32 rfl ?_
    refine va_get (D := D) (ci := 5) (v := .int (nI rc)) (C := R_Tally) (T := F_Tally) (N := 6) hx hb hts uw_Tally hown hK hP 0 rfl rfl 1 (by decide) (hts _ fl_Tally_15) (fun _ h9 => h9) rfl d_Tally_addReport_33 ?_
    refine lv_iconst (v := 1) hx hb d_Tally_addReport_36 (by decide) ?_
    refine lv_iadd hx hb d_Tally_addReport_37 ?_
    refine hq_topi (x' := nI (rc + 1)) (nI_add rc 1) ?_
    refine va_put (D := D) (ci := 5) (v := .int (nI (rc + 1))) (ty := .int) (C := R_Tally) (T := F_Tally) (N := 6) hx hb hts uw_Tally t_Tally t_Tally_ok n_Tally hown hK hP hD hS 0 rfl rfl 1 (by decide) (hts _ fl_Tally_15) (fun _ h9 => h9) rfl (by decide +kernel) (rfl) (rfl) (Nat.le_of_ble_eq_true rfl) d_Tally_addReport_38 (fun H locs hP hD hS => ?_)
    have hP : va_P D hq_cl ([hq_o5 h ra (nI (rc + 1)) tt es cs is, hq_al ra (G 1) 31 (vp_updL rp rc 0)] ++ Z) H := hP
    have hD : va_D A ([hq_o5 h ra (nI (rc + 1)) tt es cs is, hq_al ra (G 1) 31 (vp_updL rp rc 0)] ++ Z) := hD
    refine lv_aload_n hx hb d_Tally_addReport_41 rfl (lv_at hl 0 rfl) ?_
    refine lv_lconst (v := 0) hx hb d_Tally_addReport_42 (by decide) ?_
    refine va_put (D := D) (ci := 5) (v := .long 0) (ty := .long) (C := R_Tally) (T := F_Tally) (N := 6) hx hb hts uw_Tally t_Tally t_Tally_ok n_Tally hown hK hP hD hS 0 rfl rfl 4 (by decide) (hts _ fl_Tally_26) (fun _ h9 => h9) rfl (by decide +kernel) (rfl) (rfl) (Nat.le_of_ble_eq_true rfl) d_Tally_addReport_43 (fun H locs hP hD hS => ?_)
    have hP : va_P D hq_cl ([hq_o5 h ra (nI (rc + 1)) tt es 0 is, hq_al ra (G 1) 31 (vp_updL rp rc 0)] ++ Z) H := hP
    have hD : va_D A ([hq_o5 h ra (nI (rc + 1)) tt es 0 is, hq_al ra (G 1) 31 (vp_updL rp rc 0)] ++ Z) := hD
    refine lv_aload_n hx hb d_Tally_addReport_46 rfl (lv_at hl 0 rfl) ?_
    refine lv_lconst (v := 0) hx hb d_Tally_addReport_47 (by decide) ?_
    refine va_put (D := D) (ci := 5) (v := .long 0) (ty := .long) (C := R_Tally) (T := F_Tally) (N := 6) hx hb hts uw_Tally t_Tally t_Tally_ok n_Tally hown hK hP hD hS 0 rfl rfl 5 (by decide) (hts _ fl_Tally_29) (fun _ h9 => h9) rfl (by decide +kernel) (rfl) (rfl) (Nat.le_of_ble_eq_true rfl) d_Tally_addReport_48 (fun H locs hP hD hS => ?_)
    have hP : va_P D hq_cl ([hq_o5 h ra (nI (rc + 1)) tt es 0 0, hq_al ra (G 1) 31 (vp_updL rp rc 0)] ++ Z) H := hP
    have hD : va_D A ([hq_o5 h ra (nI (rc + 1)) tt es 0 0, hq_al ra (G 1) 31 (vp_updL rp rc 0)] ++ Z) := hD
    have hP : va_P D hq_cl ([hq_o5 h ra (nI (rc + 1)) tt es 0 0, hq_al ra (G 1) 31 (f_Tally_addReport_o4 rp rc cs is)] ++ Z) H := by rw [show f_Tally_addReport_o4 rp rc cs is = vp_updL rp rc 0 by (rw [f_Tally_addReport_o4, if_pos c14] <;> rfl)]; exact hP
    have hD : va_D A ([hq_o5 h ra (nI (rc + 1)) tt es 0 0, hq_al ra (G 1) 31 (f_Tally_addReport_o4 rp rc cs is)] ++ Z) := by rw [show f_Tally_addReport_o4 rp rc cs is = vp_updL rp rc 0 by (rw [f_Tally_addReport_o4, if_pos c14] <;> rfl)]; exact hD
    exact hret () H locs 51 ls d_Tally_addReport_51 (trivial) hP hD hS
  · -- 14 not taken
    have c14 : ¬ is ≤ 0 := fun h => c14 ((lg_cmp_le is 0).mpr h)
    refine lv_aload_n hx hb d_Tally_addReport_17 rfl (lv_at hl 0 rfl) ?_
    refine va_get (D := D) (ci := 5) (v := .long cs) (C := R_Tally) (T := F_Tally) (N := 6) hx hb hts uw_Tally hown hK hP 0 rfl rfl 4 (by decide) (hts _ fl_Tally_26) (fun _ h9 => h9) rfl d_Tally_addReport_18 ?_
    refine lv_aload_n hx hb d_Tally_addReport_21 rfl (lv_at hl 0 rfl) ?_
    refine va_get (D := D) (ci := 5) (v := .long is) (C := R_Tally) (T := F_Tally) (N := 6) hx hb hts uw_Tally hown hK hP 0 rfl rfl 5 (by decide) (hts _ fl_Tally_29) (fun _ h9 => h9) rfl d_Tally_addReport_22 ?_
    refine lv_ldiv hx hb d_Tally_addReport_25 (fun h0 => c14 (by rw [h0]; decide)) ?_
    refine lv_goto (tgt := 30) hx hb d_Tally_addReport_26 rfl ?_
    refine hq_last (j := rc) hx hb hK hP hD hS 1 rfl (by omega) (by omega) d_Tally_addReport_30 (fun H locs hP hD hS => ?_)
    have hP : va_P D hq_cl ([hq_o5 h ra (nI rc) tt es cs is, hq_al ra (G 1) 31 (vp_updL rp rc (cs / is))] ++ Z) H := hP
    have hD : va_D A ([hq_o5 h ra (nI rc) tt es cs is, hq_al ra (G 1) 31 (vp_updL rp rc (cs / is))] ++ Z) := hD
    refine lv_aload_n hx hb d_Tally_addReport_31 rfl (lv_at hl 0 rfl) ?_
    refine lv_dup hx hb d_Tally_addReport_32 rfl ?_
    refine va_get (D := D) (ci := 5) (v := .int (nI rc)) (C := R_Tally) (T := F_Tally) (N := 6) hx hb hts uw_Tally hown hK hP 0 rfl rfl 1 (by decide) (hts _ fl_Tally_15) (fun _ h9 => h9) rfl d_Tally_addReport_33 ?_
    refine lv_iconst (v := 1) hx hb d_Tally_addReport_36 (by decide) ?_
    refine lv_iadd hx hb d_Tally_addReport_37 ?_
    refine hq_topi (x' := nI (rc + 1)) (nI_add rc 1) ?_
    refine va_put (D := D) (ci := 5) (v := .int (nI (rc + 1))) (ty := .int) (C := R_Tally) (T := F_Tally) (N := 6) hx hb hts uw_Tally t_Tally t_Tally_ok n_Tally hown hK hP hD hS 0 rfl rfl 1 (by decide) (hts _ fl_Tally_15) (fun _ h9 => h9) rfl (by decide +kernel) (rfl) (rfl) (Nat.le_of_ble_eq_true rfl) d_Tally_addReport_38 (fun H locs hP hD hS => ?_)
    have hP : va_P D hq_cl ([hq_o5 h ra (nI (rc + 1)) tt es cs is, hq_al ra (G 1) 31 (vp_updL rp rc (cs / is))] ++ Z) H := hP
    have hD : va_D A ([hq_o5 h ra (nI (rc + 1)) tt es cs is, hq_al ra (G 1) 31 (vp_updL rp rc (cs / is))] ++ Z) := hD
    refine lv_aload_n hx hb d_Tally_addReport_41 rfl (lv_at hl 0 rfl) ?_
    refine lv_lconst (v := 0) hx hb d_Tally_addReport_42 (by decide) ?_
    refine va_put (D := D) (ci := 5) (v := .long 0) (ty := .long) (C := R_Tally) (T := F_Tally) (N := 6) hx hb hts uw_Tally t_Tally t_Tally_ok n_Tally hown hK hP hD hS 0 rfl rfl 4 (by decide) (hts _ fl_Tally_26) (fun _ h9 => h9) rfl (by decide +kernel) (rfl) (rfl) (Nat.le_of_ble_eq_true rfl) d_Tally_addReport_43 (fun H locs hP hD hS => ?_)
    have hP : va_P D hq_cl ([hq_o5 h ra (nI (rc + 1)) tt es 0 is, hq_al ra (G 1) 31 (vp_updL rp rc (cs / is))] ++ Z) H := hP
    have hD : va_D A ([hq_o5 h ra (nI (rc + 1)) tt es 0 is, hq_al ra (G 1) 31 (vp_updL rp rc (cs / is))] ++ Z) := hD
    refine lv_aload_n hx hb d_Tally_addReport_46 rfl (lv_at hl 0 rfl) ?_
    refine lv_lconst (v := 0) hx hb d_Tally_addReport_47 (by decide) ?_
    refine va_put (D := D) (ci := 5) (v := .long 0) (ty := .long) (C := R_Tally) (T := F_Tally) (N := 6) hx hb hts uw_Tally t_Tally t_Tally_ok n_Tally hown hK hP hD hS 0 rfl rfl 5 (by decide) (hts _ fl_Tally_29) (fun _ h9 => h9) rfl (by decide +kernel) (rfl) (rfl) (Nat.le_of_ble_eq_true rfl) d_Tally_addReport_48 (fun H locs hP hD hS => ?_)
    have hP : va_P D hq_cl ([hq_o5 h ra (nI (rc + 1)) tt es 0 0, hq_al ra (G 1) 31 (vp_updL rp rc (cs / is))] ++ Z) H := hP
    have hD : va_D A ([hq_o5 h ra (nI (rc + 1)) tt es 0 0, hq_al ra (G 1) 31 (vp_updL rp rc (cs / is))] ++ Z) := hD
    have hP : va_P D hq_cl ([hq_o5 h ra (nI (rc + 1)) tt es 0 0, hq_al ra (G 1) 31 (f_Tally_addReport_o4 rp rc cs is)] ++ Z) H := by rw [show f_Tally_addReport_o4 rp rc cs is = vp_updL rp rc (cs / is) by (rw [f_Tally_addReport_o4, if_neg c14] <;> rfl)]; exact hP
    have hD : va_D A ([hq_o5 h ra (nI (rc + 1)) tt es 0 0, hq_al ra (G 1) 31 (f_Tally_addReport_o4 rp rc cs is)] ++ Z) := by rw [show f_Tally_addReport_o4 rp rc cs is = vp_updL rp rc (cs / is) by (rw [f_Tally_addReport_o4, if_neg c14] <;> rfl)]; exact hD
    exact hret () H locs 51 ls d_Tally_addReport_51 (trivial) hP hD hS
