theorem d_M_hashOf_0 : decode b_M_hashOf 0 = .ok (.iload_n 2, 1) := by decide +kernel
theorem d_M_hashOf_1 : decode b_M_hashOf 1 = .ok (.iload_n 1, 1) := by decide +kernel
theorem d_M_hashOf_2 : decode b_M_hashOf 2 = .ok (.isub, 1) := by decide +kernel
theorem d_M_hashOf_3 : decode b_M_hashOf 3 = .ok (.istore 4, 2) := by decide +kernel
theorem d_M_hashOf_5 : decode b_M_hashOf 5 = .ok (.iload 4, 2) := by decide +kernel
theorem d_M_hashOf_7 : decode b_M_hashOf 7 = .ok (.bipush (9), 2) := by decide +kernel
theorem d_M_hashOf_9 : decode b_M_hashOf 9 = .ok (.if_icmp .gt (24), 3) := by decide +kernel
theorem d_M_hashOf_12 : decode b_M_hashOf 12 = .ok (.aload_n 0, 1) := by decide +kernel
theorem d_M_hashOf_13 : decode b_M_hashOf 13 = .ok (.iload_n 1, 1) := by decide +kernel
theorem d_M_hashOf_14 : decode b_M_hashOf 14 = .ok (.iload_n 2, 1) := by decide +kernel
theorem d_M_hashOf_15 : decode b_M_hashOf 15 = .ok (.invokevirtual 89, 3) := by decide +kernel
theorem d_M_hashOf_18 : decode b_M_hashOf 18 = .ok (.iload 4, 2) := by decide +kernel
theorem d_M_hashOf_20 : decode b_M_hashOf 20 = .ok (.if_icmp .ne (13), 3) := by decide +kernel
theorem d_M_hashOf_23 : decode b_M_hashOf 23 = .ok (.aload_n 0, 1) := by decide +kernel
theorem d_M_hashOf_24 : decode b_M_hashOf 24 = .ok (.iload_n 1, 1) := by decide +kernel
theorem d_M_hashOf_25 : decode b_M_hashOf 25 = .ok (.iload 4, 2) := by decide +kernel
theorem d_M_hashOf_27 : decode b_M_hashOf 27 = .ok (.invokevirtual 94, 3) := by decide +kernel
theorem d_M_hashOf_30 : decode b_M_hashOf 30 = .ok (.iload_n 3, 1) := by decide +kernel
theorem d_M_hashOf_31 : decode b_M_hashOf 31 = .ok (.iadd, 1) := by decide +kernel
theorem d_M_hashOf_32 : decode b_M_hashOf 32 = .ok (.ireturn, 1) := by decide +kernel
theorem d_M_hashOf_33 : decode b_M_hashOf 33 = .ok (.iload_n 3, 1) := by decide +kernel
theorem d_M_hashOf_34 : decode b_M_hashOf 34 = .ok (.istore 5, 2) := by decide +kernel
theorem d_M_hashOf_36 : decode b_M_hashOf 36 = .ok (.iconst 0, 1) := by decide +kernel
theorem d_M_hashOf_37 : decode b_M_hashOf 37 = .ok (.istore 6, 2) := by decide +kernel
theorem d_M_hashOf_39 : decode b_M_hashOf 39 = .ok (.iload 6, 2) := by decide +kernel
theorem d_M_hashOf_41 : decode b_M_hashOf 41 = .ok (.iload 4, 2) := by decide +kernel
theorem d_M_hashOf_43 : decode b_M_hashOf 43 = .ok (.iconst 4, 1) := by decide +kernel
theorem d_M_hashOf_44 : decode b_M_hashOf 44 = .ok (.idiv, 1) := by decide +kernel
theorem d_M_hashOf_45 : decode b_M_hashOf 45 = .ok (.if_icmp .ge (42), 3) := by decide +kernel
theorem d_M_hashOf_48 : decode b_M_hashOf 48 = .ok (.iload 5, 2) := by decide +kernel
theorem d_M_hashOf_50 : decode b_M_hashOf 50 = .ok (.aload_n 0, 1) := by decide +kernel
theorem d_M_hashOf_51 : decode b_M_hashOf 51 = .ok (.iload_n 1, 1) := by decide +kernel
theorem d_M_hashOf_52 : decode b_M_hashOf 52 = .ok (.iconst 4, 1) := by decide +kernel
theorem d_M_hashOf_53 : decode b_M_hashOf 53 = .ok (.iload 6, 2) := by decide +kernel
theorem d_M_hashOf_55 : decode b_M_hashOf 55 = .ok (.imul, 1) := by decide +kernel
theorem d_M_hashOf_56 : decode b_M_hashOf 56 = .ok (.iadd, 1) := by decide +kernel
theorem d_M_hashOf_57 : decode b_M_hashOf 57 = .ok (.iconst 4, 1) := by decide +kernel
theorem d_M_hashOf_58 : decode b_M_hashOf 58 = .ok (.invokevirtual 151, 3) := by decide +kernel
theorem d_M_hashOf_61 : decode b_M_hashOf 61 = .ok (.invokestatic 154, 3) := by decide +kernel
theorem d_M_hashOf_64 : decode b_M_hashOf 64 = .ok (.ixor, 1) := by decide +kernel
theorem d_M_hashOf_65 : decode b_M_hashOf 65 = .ok (.istore 5, 2) := by decide +kernel
theorem d_M_hashOf_67 : decode b_M_hashOf 67 = .ok (.iload 5, 2) := by decide +kernel
theorem d_M_hashOf_69 : decode b_M_hashOf 69 = .ok (.bipush (13), 2) := by decide +kernel
theorem d_M_hashOf_71 : decode b_M_hashOf 71 = .ok (.invokestatic 147, 3) := by decide +kernel
theorem d_M_hashOf_74 : decode b_M_hashOf 74 = .ok (.iconst 5, 1) := by decide +kernel
theorem d_M_hashOf_75 : decode b_M_hashOf 75 = .ok (.imul, 1) := by decide +kernel
theorem d_M_hashOf_76 : decode b_M_hashOf 76 = .ok (.ldc 158, 2) := by decide +kernel
theorem d_M_hashOf_78 : decode b_M_hashOf 78 = .ok (.iadd, 1) := by decide +kernel
theorem d_M_hashOf_79 : decode b_M_hashOf 79 = .ok (.istore 5, 2) := by decide +kernel
theorem d_M_hashOf_81 : decode b_M_hashOf 81 = .ok (.iinc 6 (1), 3) := by decide +kernel
theorem d_M_hashOf_84 : decode b_M_hashOf 84 = .ok (.goto (-45), 3) := by decide +kernel
theorem d_M_hashOf_87 : decode b_M_hashOf 87 = .ok (.iload 4, 2) := by decide +kernel
theorem d_M_hashOf_89 : decode b_M_hashOf 89 = .ok (.iconst 4, 1) := by decide +kernel
theorem d_M_hashOf_90 : decode b_M_hashOf 90 = .ok (.irem, 1) := by decide +kernel
theorem d_M_hashOf_91 : decode b_M_hashOf 91 = .ok (.istore 6, 2) := by decide +kernel
theorem d_M_hashOf_93 : decode b_M_hashOf 93 = .ok (.iload 6, 2) := by decide +kernel
theorem d_M_hashOf_95 : decode b_M_hashOf 95 = .ok (.ifCond .le (22), 3) := by decide +kernel
theorem d_M_hashOf_98 : decode b_M_hashOf 98 = .ok (.iload 5, 2) := by decide +kernel
theorem d_M_hashOf_100 : decode b_M_hashOf 100 = .ok (.aload_n 0, 1) := by decide +kernel
theorem d_M_hashOf_101 : decode b_M_hashOf 101 = .ok (.iload_n 2, 1) := by decide +kernel
theorem d_M_hashOf_102 : decode b_M_hashOf 102 = .ok (.iload 6, 2) := by decide +kernel
theorem d_M_hashOf_104 : decode b_M_hashOf 104 = .ok (.isub, 1) := by decide +kernel
theorem d_M_hashOf_105 : decode b_M_hashOf 105 = .ok (.iload 6, 2) := by decide +kernel
theorem d_M_hashOf_107 : decode b_M_hashOf 107 = .ok (.invokevirtual 151, 3) := by decide +kernel
theorem d_M_hashOf_110 : decode b_M_hashOf 110 = .ok (.invokestatic 154, 3) := by decide +kernel
theorem d_M_hashOf_113 : decode b_M_hashOf 113 = .ok (.ixor, 1) := by decide +kernel
theorem d_M_hashOf_114 : decode b_M_hashOf 114 = .ok (.goto (5), 3) := by decide +kernel
theorem d_M_hashOf_117 : decode b_M_hashOf 117 = .ok (.iload 5, 2) := by decide +kernel
theorem d_M_hashOf_119 : decode b_M_hashOf 119 = .ok (.istore 5, 2) := by decide +kernel
theorem d_M_hashOf_121 : decode b_M_hashOf 121 = .ok (.iload 5, 2) := by decide +kernel
theorem d_M_hashOf_123 : decode b_M_hashOf 123 = .ok (.iload 4, 2) := by decide +kernel
theorem d_M_hashOf_125 : decode b_M_hashOf 125 = .ok (.ixor, 1) := by decide +kernel
theorem d_M_hashOf_126 : decode b_M_hashOf 126 = .ok (.istore 5, 2) := by decide +kernel
theorem d_M_hashOf_128 : decode b_M_hashOf 128 = .ok (.iload 5, 2) := by decide +kernel
theorem d_M_hashOf_130 : decode b_M_hashOf 130 = .ok (.iload 5, 2) := by decide +kernel
theorem d_M_hashOf_132 : decode b_M_hashOf 132 = .ok (.bipush (16), 2) := by decide +kernel
theorem d_M_hashOf_134 : decode b_M_hashOf 134 = .ok (.iushr, 1) := by decide +kernel
theorem d_M_hashOf_135 : decode b_M_hashOf 135 = .ok (.ixor, 1) := by decide +kernel
theorem d_M_hashOf_136 : decode b_M_hashOf 136 = .ok (.ldc 159, 2) := by decide +kernel
theorem d_M_hashOf_138 : decode b_M_hashOf 138 = .ok (.imul, 1) := by decide +kernel
theorem d_M_hashOf_139 : decode b_M_hashOf 139 = .ok (.istore 5, 2) := by decide +kernel
theorem d_M_hashOf_141 : decode b_M_hashOf 141 = .ok (.iload 5, 2) := by decide +kernel
theorem d_M_hashOf_143 : decode b_M_hashOf 143 = .ok (.iload 5, 2) := by decide +kernel
theorem d_M_hashOf_145 : decode b_M_hashOf 145 = .ok (.bipush (13), 2) := by decide +kernel
theorem d_M_hashOf_147 : decode b_M_hashOf 147 = .ok (.iushr, 1) := by decide +kernel
theorem d_M_hashOf_148 : decode b_M_hashOf 148 = .ok (.ixor, 1) := by decide +kernel
theorem d_M_hashOf_149 : decode b_M_hashOf 149 = .ok (.ldc 160, 2) := by decide +kernel
theorem d_M_hashOf_151 : decode b_M_hashOf 151 = .ok (.imul, 1) := by decide +kernel
theorem d_M_hashOf_152 : decode b_M_hashOf 152 = .ok (.istore 5, 2) := by decide +kernel
theorem d_M_hashOf_154 : decode b_M_hashOf 154 = .ok (.iload 5, 2) := by decide +kernel
theorem d_M_hashOf_156 : decode b_M_hashOf 156 = .ok (.iload 5, 2) := by decide +kernel
theorem d_M_hashOf_158 : decode b_M_hashOf 158 = .ok (.bipush (16), 2) := by decide +kernel
theorem d_M_hashOf_160 : decode b_M_hashOf 160 = .ok (.iushr, 1) := by decide +kernel
theorem d_M_hashOf_161 : decode b_M_hashOf 161 = .ok (.ixor, 1) := by decide +kernel
theorem d_M_hashOf_162 : decode b_M_hashOf 162 = .ok (.ireturn, 1) := by decide +kernel
set_option maxHeartbeats 4000000 in
set_option maxRecDepth 100000 in
theorem c_M_hashOf (l : Launch) (D : va_G) (G : Nat → ClassId) (A : Nat → Prop) (Z : va_W) (h : Nat) (fs : List Value) (ta : Nat) (tx : Nat → Int32) (i : Nat) (j : Nat) (sd : Int32) (hf5 : fs[5]? = some (.ref ta)) (hj : j ≤ 2000) (hi : i < j) : hq_FI l D G A y_M_hashOf b_M_hashOf 7 .int 2 [.ref h, .int (nI i), .int (nI j), .int sd] ([(h, .inr (8, fs)), hq_ai ta (G 0) 2000 tx] ++ Z) (hq_hash tx i j sd) ([(h, .inr (8, fs)), hq_ai ta (G 0) 2000 tx] ++ Z) := by
  refine hq_bI (by decide) (Nat.le_of_ble_eq_true rfl) (fun _ _ _ => rfl) ?_
  intro p e s m args below meth c Q hx hb hml hts hown hA hK hN hret ls H locs hl hP hD hS
  have hown : s.vm.findClass "HashedLearnerModel" = some m.cls := hown
  have hl : lv_has ls 7 [(0, .ref h), (1, .int (nI i)), (2, .int (nI j)), (3, .int sd)] := hl
  have cut33 : ∀ (ls : Array Slot) (H : Heap) (locs : List Loc), (¬ hq_areD tx i j 9 = true) → lv_has ls 7 [(0, .ref h), (1, .int (nI i)), (2, .int (nI j)), (3, .int sd), (4, .int (nI (j - i)))] → va_P D hq_cl ([(h, .inr (8, fs)), hq_ai ta (G 0) 2000 tx] ++ Z) H → va_D A ([(h, .inr (8, fs)), hq_ai ta (G 0) 2000 tx] ++ Z) → va_S A s.heap H locs → W p l e (hq_rm 2 0 0) s m args below meth c H locs 0 0 Q (F0 m 33 ls []) := by
    intro ls H locs hA9 hl hP hD hS
    refine lv_iload_n hx hb d_M_hashOf_33 rfl (lv_at hl 3 rfl) ?_
    refine hq_topi (x' := hq_hb tx i sd 0) ((hq_hb_0 tx i sd).symm) ?_
    refine lv_istore (nL := 7) (lv' := [(5, .int (hq_hb tx i sd 0)), (0, .ref h), (1, .int (nI i)), (2, .int (nI j)), (3, .int sd), (4, .int (nI (j - i)))]) hx hb d_M_hashOf_34 hl (by decide) rfl (fun ls hl => ?_)
    refine lv_iconst (v := nI 0) hx hb d_M_hashOf_36 (by decide) ?_
    refine lv_istore (nL := 7) (lv' := [(6, .int (nI 0)), (5, .int (hq_hb tx i sd 0)), (0, .ref h), (1, .int (nI i)), (2, .int (nI j)), (3, .int sd), (4, .int (nI (j - i)))]) hx hb d_M_hashOf_37 hl (by decide) rfl (fun ls hl => ?_)
    have cut39 : ∀ (kz : Nat) (b : Nat) (ls : Array Slot) (H : Heap) (locs : List Loc), (j - i) / 4 - b = kz → (b ≤ (j - i) / 4) → lv_has ls 7 [(0, .ref h), (1, .int (nI i)), (2, .int (nI j)), (4, .int (nI (j - i))), (5, .int (hq_hb tx i sd b)), (6, .int (nI b))] → va_P D hq_cl ([(h, .inr (8, fs)), hq_ai ta (G 0) 2000 tx] ++ Z) H → va_D A ([(h, .inr (8, fs)), hq_ai ta (G 0) 2000 tx] ++ Z) → va_S A s.heap H locs → W p l e (hq_rm 2 0 0) s m args below meth c H locs 0 0 Q (F0 m 39 ls []) := by
      intro kz
      induction kz using Nat.strongRecOn with
      | ind kz ih =>
        intro b ls H locs hkz hb4 hl hP hD hS
        subst hkz
        refine lv_iload hx hb d_M_hashOf_39 (lv_at hl 5 rfl) ?_
        refine lv_iload hx hb d_M_hashOf_41 (lv_at hl 3 rfl) ?_
        refine lv_iconst (v := 4) hx hb d_M_hashOf_43 (by decide) ?_
        refine lv_idiv hx hb d_M_hashOf_44 (by decide) ?_
        refine hq_topi (x' := nI ((j - i) / 4)) (pk_div (d := 4) (by omega) (by decide) (by decide)) ?_
        refine lv_icmp_ge (tgt := 87) hx hb d_M_hashOf_45 rfl (fun c45 => ?_) (fun c45 => ?_)
        · -- 45 taken
          have c45 : ((j - i) / 4) ≤ b := (nI_leI (a := (j - i) / 4) (b := b) (by omega) (by omega)).mp c45
          refine lv_iload hx hb d_M_hashOf_87 (lv_at hl 3 rfl) ?_
          refine lv_iconst (v := 4) hx hb d_M_hashOf_89 (by decide) ?_
          refine lv_irem hx hb d_M_hashOf_90 (by decide) ?_
          refine hq_topi (x' := nI ((j - i) % 4)) (pk_rem (d := 4) (by omega) (by decide) (by decide)) ?_
          refine lv_istore (nL := 7) (lv' := [(6, .int (nI ((j - i) % 4))), (0, .ref h), (1, .int (nI i)), (2, .int (nI j)), (4, .int (nI (j - i))), (5, .int (hq_hb tx i sd b))]) hx hb d_M_hashOf_91 hl (by decide) rfl (fun ls hl => ?_)
          refine lv_iload hx hb d_M_hashOf_93 (lv_at hl 0 rfl) ?_
          refine lv_if_le (tgt := 117) hx hb d_M_hashOf_95 rfl (fun c95 => ?_) (fun c95 => ?_)
          · -- 95 taken
            have c95 : ((j - i) % 4) ≤ 0 := (nI_leI (a := (j - i) % 4) (b := 0) (by omega) (by omega)).mp c95
            refine lv_iload hx hb d_M_hashOf_117 (lv_at hl 5 rfl) ?_
            refine lv_istore (nL := 7) (lv' := [(5, .int (hq_hb tx i sd b)), (6, .int (nI ((j - i) % 4))), (0, .ref h), (1, .int (nI i)), (2, .int (nI j)), (4, .int (nI (j - i)))]) hx hb d_M_hashOf_119 hl (by decide) rfl (fun ls hl => ?_)
            refine lv_iload hx hb d_M_hashOf_121 (lv_at hl 0 rfl) ?_
            refine lv_iload hx hb d_M_hashOf_123 (lv_at hl 5 rfl) ?_
            refine lv_ixor hx hb d_M_hashOf_125 ?_
            refine lv_istore (nL := 7) (lv' := [(5, .int ((hq_hb tx i sd b) ^^^ (nI (j - i)))), (6, .int (nI ((j - i) % 4))), (0, .ref h), (1, .int (nI i)), (2, .int (nI j)), (4, .int (nI (j - i)))]) hx hb d_M_hashOf_126 hl (by decide) rfl (fun ls hl => ?_)
            refine lv_iload hx hb d_M_hashOf_128 (lv_at hl 0 rfl) ?_
            refine lv_iload hx hb d_M_hashOf_130 (lv_at hl 0 rfl) ?_
            refine lv_bipush (v := 16) hx hb d_M_hashOf_132 (by decide) ?_
            refine lv_iushr (v := ((Int32.toUInt32 ((hq_hb tx i sd b) ^^^ (nI (j - i)))) >>> ((Int32.toUInt32 16) &&& Int32.toUInt32 31)).toInt32) hx hb d_M_hashOf_134 rfl ?_
            refine lv_ixor hx hb d_M_hashOf_135 ?_
            refine lv_ldc (v := (-2048144789)) hx hb hown (hts _ ki_M_159) d_M_hashOf_136 ?_
            refine lv_imul hx hb d_M_hashOf_138 ?_
            refine lv_istore (nL := 7) (lv' := [(5, .int ((((hq_hb tx i sd b) ^^^ (nI (j - i))) ^^^ (((Int32.toUInt32 ((hq_hb tx i sd b) ^^^ (nI (j - i)))) >>> ((Int32.toUInt32 16) &&& Int32.toUInt32 31)).toInt32)) * (-2048144789))), (6, .int (nI ((j - i) % 4))), (0, .ref h), (1, .int (nI i)), (2, .int (nI j)), (4, .int (nI (j - i)))]) hx hb d_M_hashOf_139 hl (by decide) rfl (fun ls hl => ?_)
            refine lv_iload hx hb d_M_hashOf_141 (lv_at hl 0 rfl) ?_
            refine lv_iload hx hb d_M_hashOf_143 (lv_at hl 0 rfl) ?_
            refine lv_bipush (v := 13) hx hb d_M_hashOf_145 (by decide) ?_
            refine lv_iushr (v := ((Int32.toUInt32 ((((hq_hb tx i sd b) ^^^ (nI (j - i))) ^^^ (((Int32.toUInt32 ((hq_hb tx i sd b) ^^^ (nI (j - i)))) >>> ((Int32.toUInt32 16) &&& Int32.toUInt32 31)).toInt32)) * (-2048144789))) >>> ((Int32.toUInt32 13) &&& Int32.toUInt32 31)).toInt32) hx hb d_M_hashOf_147 rfl ?_
            refine lv_ixor hx hb d_M_hashOf_148 ?_
            refine lv_ldc (v := (-1028477387)) hx hb hown (hts _ ki_M_160) d_M_hashOf_149 ?_
            refine lv_imul hx hb d_M_hashOf_151 ?_
            refine lv_istore (nL := 7) (lv' := [(5, .int ((((((hq_hb tx i sd b) ^^^ (nI (j - i))) ^^^ (((Int32.toUInt32 ((hq_hb tx i sd b) ^^^ (nI (j - i)))) >>> ((Int32.toUInt32 16) &&& Int32.toUInt32 31)).toInt32)) * (-2048144789)) ^^^ (((Int32.toUInt32 ((((hq_hb tx i sd b) ^^^ (nI (j - i))) ^^^ (((Int32.toUInt32 ((hq_hb tx i sd b) ^^^ (nI (j - i)))) >>> ((Int32.toUInt32 16) &&& Int32.toUInt32 31)).toInt32)) * (-2048144789))) >>> ((Int32.toUInt32 13) &&& Int32.toUInt32 31)).toInt32)) * (-1028477387))), (6, .int (nI ((j - i) % 4))), (0, .ref h), (1, .int (nI i)), (2, .int (nI j)), (4, .int (nI (j - i)))]) hx hb d_M_hashOf_152 hl (by decide) rfl (fun ls hl => ?_)
            refine lv_iload hx hb d_M_hashOf_154 (lv_at hl 0 rfl) ?_
            refine lv_iload hx hb d_M_hashOf_156 (lv_at hl 0 rfl) ?_
            refine lv_bipush (v := 16) hx hb d_M_hashOf_158 (by decide) ?_
            refine lv_iushr (v := ((Int32.toUInt32 ((((((hq_hb tx i sd b) ^^^ (nI (j - i))) ^^^ (((Int32.toUInt32 ((hq_hb tx i sd b) ^^^ (nI (j - i)))) >>> ((Int32.toUInt32 16) &&& Int32.toUInt32 31)).toInt32)) * (-2048144789)) ^^^ (((Int32.toUInt32 ((((hq_hb tx i sd b) ^^^ (nI (j - i))) ^^^ (((Int32.toUInt32 ((hq_hb tx i sd b) ^^^ (nI (j - i)))) >>> ((Int32.toUInt32 16) &&& Int32.toUInt32 31)).toInt32)) * (-2048144789))) >>> ((Int32.toUInt32 13) &&& Int32.toUInt32 31)).toInt32)) * (-1028477387))) >>> ((Int32.toUInt32 16) &&& Int32.toUInt32 31)).toInt32) hx hb d_M_hashOf_160 rfl ?_
            refine lv_ixor hx hb d_M_hashOf_161 ?_
            exact hret (((((((hq_hb tx i sd b) ^^^ (nI (j - i))) ^^^ (((Int32.toUInt32 ((hq_hb tx i sd b) ^^^ (nI (j - i)))) >>> ((Int32.toUInt32 16) &&& Int32.toUInt32 31)).toInt32)) * (-2048144789)) ^^^ (((Int32.toUInt32 ((((hq_hb tx i sd b) ^^^ (nI (j - i))) ^^^ (((Int32.toUInt32 ((hq_hb tx i sd b) ^^^ (nI (j - i)))) >>> ((Int32.toUInt32 16) &&& Int32.toUInt32 31)).toInt32)) * (-2048144789))) >>> ((Int32.toUInt32 13) &&& Int32.toUInt32 31)).toInt32)) * (-1028477387)) ^^^ (((Int32.toUInt32 ((((((hq_hb tx i sd b) ^^^ (nI (j - i))) ^^^ (((Int32.toUInt32 ((hq_hb tx i sd b) ^^^ (nI (j - i)))) >>> ((Int32.toUInt32 16) &&& Int32.toUInt32 31)).toInt32)) * (-2048144789)) ^^^ (((Int32.toUInt32 ((((hq_hb tx i sd b) ^^^ (nI (j - i))) ^^^ (((Int32.toUInt32 ((hq_hb tx i sd b) ^^^ (nI (j - i)))) >>> ((Int32.toUInt32 16) &&& Int32.toUInt32 31)).toInt32)) * (-2048144789))) >>> ((Int32.toUInt32 13) &&& Int32.toUInt32 31)).toInt32)) * (-1028477387))) >>> ((Int32.toUInt32 16) &&& Int32.toUInt32 31)).toInt32)) () H locs 162 ls d_M_hashOf_162 (by rw [hq_hash_finM hA9 hb4 c45 (Nat.le_of_lt hi), if_pos c95, f_NameHash_finished]) hP hD hS
          · -- 95 not taken
            have c95 : ¬ ((j - i) % 4) ≤ 0 := fun h => c95 ((nI_leI (a := (j - i) % 4) (b := 0) (by omega) (by omega)).mpr h)
            refine lv_iload hx hb d_M_hashOf_98 (lv_at hl 5 rfl) ?_
            refine lv_aload_n hx hb d_M_hashOf_100 rfl (lv_at hl 1 rfl) ?_
            refine lv_iload_n hx hb d_M_hashOf_101 rfl (lv_at hl 3 rfl) ?_
            refine lv_iload hx hb d_M_hashOf_102 (lv_at hl 0 rfl) ?_
            refine lv_isub hx hb d_M_hashOf_104 ?_
            refine hq_topi (x' := nI (j - (j - i) % 4)) (pk_sub (by omega)) ?_
            refine lv_iload hx hb d_M_hashOf_105 (lv_at hl 0 rfl) ?_
            have hPc : va_P D hq_cl ([(h, .inr (8, fs)), hq_ai ta (G 0) 2000 tx] ++ Z) H := hP
            have hDc : va_D A ([(h, .inr (8, fs)), hq_ai ta (G 0) 2000 tx] ++ Z) := hD
            refine hq_iF (hq_rV (As := [.int (nI (j - (j - i) % 4)), .int (nI ((j - i) % 4))]) (rest := [.int (hq_hb tx i sd b)]) hx hb hml hown hts (c_M_block l D G A Z h fs ta tx (j - (j - i) % 4) ((j - i) % 4) (by first | assumption | rfl) (by first | assumption | omega)) yy_M_block lk_M_151 hA hK hN hS hPc hDc 0 8 rfl rfl rfl hl.1 rfl (Nat.le_of_ble_eq_true rfl) d_M_hashOf_107 ⟨by decide, by decide⟩ ⟨by decide, by decide⟩) hS (fun H locs hP hD hS => ?_)
            have hP : va_P D hq_cl ([(h, .inr (8, fs)), hq_ai ta (G 0) 2000 tx] ++ Z) H := hP
            have hD : va_D A ([(h, .inr (8, fs)), hq_ai ta (G 0) 2000 tx] ++ Z) := hD
            have hPc : va_P D hq_cl ([] ++ ([(h, .inr (8, fs)), hq_ai ta (G 0) 2000 tx] ++ Z)) H := hP
            have hDc : va_D A ([] ++ ([(h, .inr (8, fs)), hq_ai ta (G 0) 2000 tx] ++ Z)) := hD
            refine hq_iF (hq_rS (As := [.int (hq_blk tx (j - (j - i) % 4) ((j - i) % 4) 0)]) (rest := [.int (hq_hb tx i sd b)]) hx hb hml hown hts (c_M_mixed l D G A ([(h, .inr (8, fs)), hq_ai ta (G 0) 2000 tx] ++ Z) (hq_blk tx (j - (j - i) % 4) ((j - i) % 4) 0)) yy_M_mixed lk_M_154 hA hK hN hS hPc hDc rfl hl.1 rfl (Nat.le_of_ble_eq_true rfl) d_M_hashOf_110 ⟨by decide, by decide⟩ ⟨by decide, by decide⟩) hS (fun H locs hP hD hS => ?_)
            have hP : va_P D hq_cl ([(h, .inr (8, fs)), hq_ai ta (G 0) 2000 tx] ++ Z) H := hP
            have hD : va_D A ([(h, .inr (8, fs)), hq_ai ta (G 0) 2000 tx] ++ Z) := hD
            refine hq_topi (x' := f_NameHash_mixed (hq_blk tx (j - (j - i) % 4) ((j - i) % 4) 0)) (rfl) ?_
            refine lv_ixor hx hb d_M_hashOf_113 ?_
            refine lv_goto (tgt := 119) hx hb d_M_hashOf_114 rfl ?_
            refine lv_istore (nL := 7) (lv' := [(5, .int ((hq_hb tx i sd b) ^^^ (f_NameHash_mixed (hq_blk tx (j - (j - i) % 4) ((j - i) % 4) 0)))), (6, .int (nI ((j - i) % 4))), (0, .ref h), (1, .int (nI i)), (2, .int (nI j)), (4, .int (nI (j - i)))]) hx hb d_M_hashOf_119 hl (by decide) rfl (fun ls hl => ?_)
            refine lv_iload hx hb d_M_hashOf_121 (lv_at hl 0 rfl) ?_
            refine lv_iload hx hb d_M_hashOf_123 (lv_at hl 5 rfl) ?_
            refine lv_ixor hx hb d_M_hashOf_125 ?_
            refine lv_istore (nL := 7) (lv' := [(5, .int (((hq_hb tx i sd b) ^^^ (f_NameHash_mixed (hq_blk tx (j - (j - i) % 4) ((j - i) % 4) 0))) ^^^ (nI (j - i)))), (6, .int (nI ((j - i) % 4))), (0, .ref h), (1, .int (nI i)), (2, .int (nI j)), (4, .int (nI (j - i)))]) hx hb d_M_hashOf_126 hl (by decide) rfl (fun ls hl => ?_)
            refine lv_iload hx hb d_M_hashOf_128 (lv_at hl 0 rfl) ?_
            refine lv_iload hx hb d_M_hashOf_130 (lv_at hl 0 rfl) ?_
            refine lv_bipush (v := 16) hx hb d_M_hashOf_132 (by decide) ?_
            refine lv_iushr (v := ((Int32.toUInt32 (((hq_hb tx i sd b) ^^^ (f_NameHash_mixed (hq_blk tx (j - (j - i) % 4) ((j - i) % 4) 0))) ^^^ (nI (j - i)))) >>> ((Int32.toUInt32 16) &&& Int32.toUInt32 31)).toInt32) hx hb d_M_hashOf_134 rfl ?_
            refine lv_ixor hx hb d_M_hashOf_135 ?_
            refine lv_ldc (v := (-2048144789)) hx hb hown (hts _ ki_M_159) d_M_hashOf_136 ?_
            refine lv_imul hx hb d_M_hashOf_138 ?_
            refine lv_istore (nL := 7) (lv' := [(5, .int (((((hq_hb tx i sd b) ^^^ (f_NameHash_mixed (hq_blk tx (j - (j - i) % 4) ((j - i) % 4) 0))) ^^^ (nI (j - i))) ^^^ (((Int32.toUInt32 (((hq_hb tx i sd b) ^^^ (f_NameHash_mixed (hq_blk tx (j - (j - i) % 4) ((j - i) % 4) 0))) ^^^ (nI (j - i)))) >>> ((Int32.toUInt32 16) &&& Int32.toUInt32 31)).toInt32)) * (-2048144789))), (6, .int (nI ((j - i) % 4))), (0, .ref h), (1, .int (nI i)), (2, .int (nI j)), (4, .int (nI (j - i)))]) hx hb d_M_hashOf_139 hl (by decide) rfl (fun ls hl => ?_)
            refine lv_iload hx hb d_M_hashOf_141 (lv_at hl 0 rfl) ?_
            refine lv_iload hx hb d_M_hashOf_143 (lv_at hl 0 rfl) ?_
            refine lv_bipush (v := 13) hx hb d_M_hashOf_145 (by decide) ?_
            refine lv_iushr (v := ((Int32.toUInt32 (((((hq_hb tx i sd b) ^^^ (f_NameHash_mixed (hq_blk tx (j - (j - i) % 4) ((j - i) % 4) 0))) ^^^ (nI (j - i))) ^^^ (((Int32.toUInt32 (((hq_hb tx i sd b) ^^^ (f_NameHash_mixed (hq_blk tx (j - (j - i) % 4) ((j - i) % 4) 0))) ^^^ (nI (j - i)))) >>> ((Int32.toUInt32 16) &&& Int32.toUInt32 31)).toInt32)) * (-2048144789))) >>> ((Int32.toUInt32 13) &&& Int32.toUInt32 31)).toInt32) hx hb d_M_hashOf_147 rfl ?_
            refine lv_ixor hx hb d_M_hashOf_148 ?_
            refine lv_ldc (v := (-1028477387)) hx hb hown (hts _ ki_M_160) d_M_hashOf_149 ?_
            refine lv_imul hx hb d_M_hashOf_151 ?_
            refine lv_istore (nL := 7) (lv' := [(5, .int (((((((hq_hb tx i sd b) ^^^ (f_NameHash_mixed (hq_blk tx (j - (j - i) % 4) ((j - i) % 4) 0))) ^^^ (nI (j - i))) ^^^ (((Int32.toUInt32 (((hq_hb tx i sd b) ^^^ (f_NameHash_mixed (hq_blk tx (j - (j - i) % 4) ((j - i) % 4) 0))) ^^^ (nI (j - i)))) >>> ((Int32.toUInt32 16) &&& Int32.toUInt32 31)).toInt32)) * (-2048144789)) ^^^ (((Int32.toUInt32 (((((hq_hb tx i sd b) ^^^ (f_NameHash_mixed (hq_blk tx (j - (j - i) % 4) ((j - i) % 4) 0))) ^^^ (nI (j - i))) ^^^ (((Int32.toUInt32 (((hq_hb tx i sd b) ^^^ (f_NameHash_mixed (hq_blk tx (j - (j - i) % 4) ((j - i) % 4) 0))) ^^^ (nI (j - i)))) >>> ((Int32.toUInt32 16) &&& Int32.toUInt32 31)).toInt32)) * (-2048144789))) >>> ((Int32.toUInt32 13) &&& Int32.toUInt32 31)).toInt32)) * (-1028477387))), (6, .int (nI ((j - i) % 4))), (0, .ref h), (1, .int (nI i)), (2, .int (nI j)), (4, .int (nI (j - i)))]) hx hb d_M_hashOf_152 hl (by decide) rfl (fun ls hl => ?_)
            refine lv_iload hx hb d_M_hashOf_154 (lv_at hl 0 rfl) ?_
            refine lv_iload hx hb d_M_hashOf_156 (lv_at hl 0 rfl) ?_
            refine lv_bipush (v := 16) hx hb d_M_hashOf_158 (by decide) ?_
            refine lv_iushr (v := ((Int32.toUInt32 (((((((hq_hb tx i sd b) ^^^ (f_NameHash_mixed (hq_blk tx (j - (j - i) % 4) ((j - i) % 4) 0))) ^^^ (nI (j - i))) ^^^ (((Int32.toUInt32 (((hq_hb tx i sd b) ^^^ (f_NameHash_mixed (hq_blk tx (j - (j - i) % 4) ((j - i) % 4) 0))) ^^^ (nI (j - i)))) >>> ((Int32.toUInt32 16) &&& Int32.toUInt32 31)).toInt32)) * (-2048144789)) ^^^ (((Int32.toUInt32 (((((hq_hb tx i sd b) ^^^ (f_NameHash_mixed (hq_blk tx (j - (j - i) % 4) ((j - i) % 4) 0))) ^^^ (nI (j - i))) ^^^ (((Int32.toUInt32 (((hq_hb tx i sd b) ^^^ (f_NameHash_mixed (hq_blk tx (j - (j - i) % 4) ((j - i) % 4) 0))) ^^^ (nI (j - i)))) >>> ((Int32.toUInt32 16) &&& Int32.toUInt32 31)).toInt32)) * (-2048144789))) >>> ((Int32.toUInt32 13) &&& Int32.toUInt32 31)).toInt32)) * (-1028477387))) >>> ((Int32.toUInt32 16) &&& Int32.toUInt32 31)).toInt32) hx hb d_M_hashOf_160 rfl ?_
            refine lv_ixor hx hb d_M_hashOf_161 ?_
            exact hret ((((((((hq_hb tx i sd b) ^^^ (f_NameHash_mixed (hq_blk tx (j - (j - i) % 4) ((j - i) % 4) 0))) ^^^ (nI (j - i))) ^^^ (((Int32.toUInt32 (((hq_hb tx i sd b) ^^^ (f_NameHash_mixed (hq_blk tx (j - (j - i) % 4) ((j - i) % 4) 0))) ^^^ (nI (j - i)))) >>> ((Int32.toUInt32 16) &&& Int32.toUInt32 31)).toInt32)) * (-2048144789)) ^^^ (((Int32.toUInt32 (((((hq_hb tx i sd b) ^^^ (f_NameHash_mixed (hq_blk tx (j - (j - i) % 4) ((j - i) % 4) 0))) ^^^ (nI (j - i))) ^^^ (((Int32.toUInt32 (((hq_hb tx i sd b) ^^^ (f_NameHash_mixed (hq_blk tx (j - (j - i) % 4) ((j - i) % 4) 0))) ^^^ (nI (j - i)))) >>> ((Int32.toUInt32 16) &&& Int32.toUInt32 31)).toInt32)) * (-2048144789))) >>> ((Int32.toUInt32 13) &&& Int32.toUInt32 31)).toInt32)) * (-1028477387)) ^^^ (((Int32.toUInt32 (((((((hq_hb tx i sd b) ^^^ (f_NameHash_mixed (hq_blk tx (j - (j - i) % 4) ((j - i) % 4) 0))) ^^^ (nI (j - i))) ^^^ (((Int32.toUInt32 (((hq_hb tx i sd b) ^^^ (f_NameHash_mixed (hq_blk tx (j - (j - i) % 4) ((j - i) % 4) 0))) ^^^ (nI (j - i)))) >>> ((Int32.toUInt32 16) &&& Int32.toUInt32 31)).toInt32)) * (-2048144789)) ^^^ (((Int32.toUInt32 (((((hq_hb tx i sd b) ^^^ (f_NameHash_mixed (hq_blk tx (j - (j - i) % 4) ((j - i) % 4) 0))) ^^^ (nI (j - i))) ^^^ (((Int32.toUInt32 (((hq_hb tx i sd b) ^^^ (f_NameHash_mixed (hq_blk tx (j - (j - i) % 4) ((j - i) % 4) 0))) ^^^ (nI (j - i)))) >>> ((Int32.toUInt32 16) &&& Int32.toUInt32 31)).toInt32)) * (-2048144789))) >>> ((Int32.toUInt32 13) &&& Int32.toUInt32 31)).toInt32)) * (-1028477387))) >>> ((Int32.toUInt32 16) &&& Int32.toUInt32 31)).toInt32)) () H locs 162 ls d_M_hashOf_162 (by rw [hq_hash_finM hA9 hb4 c45 (Nat.le_of_lt hi), if_neg c95, f_NameHash_finished]) hP hD hS
        · -- 45 not taken
          have c45 : ¬ ((j - i) / 4) ≤ b := fun h => c45 ((nI_leI (a := (j - i) / 4) (b := b) (by omega) (by omega)).mpr h)
          refine lv_iload hx hb d_M_hashOf_48 (lv_at hl 4 rfl) ?_
          refine lv_aload_n hx hb d_M_hashOf_50 rfl (lv_at hl 0 rfl) ?_
          refine lv_iload_n hx hb d_M_hashOf_51 rfl (lv_at hl 1 rfl) ?_
          refine lv_iconst (v := nI 4) hx hb d_M_hashOf_52 (by decide) ?_
          refine lv_iload hx hb d_M_hashOf_53 (lv_at hl 5 rfl) ?_
          refine lv_imul hx hb d_M_hashOf_55 ?_
          refine hq_topi (x' := nI (4 * b)) (pk_mul 4 b) ?_
          refine lv_iadd hx hb d_M_hashOf_56 ?_
          refine hq_topi (x' := nI (i + (4 * b))) (nI_add i (4 * b)) ?_
          refine lv_iconst (v := nI 4) hx hb d_M_hashOf_57 (by decide) ?_
          have hPc : va_P D hq_cl ([(h, .inr (8, fs)), hq_ai ta (G 0) 2000 tx] ++ Z) H := hP
          have hDc : va_D A ([(h, .inr (8, fs)), hq_ai ta (G 0) 2000 tx] ++ Z) := hD
          refine hq_iF (hq_rV (As := [.int (nI (i + (4 * b))), .int (nI 4)]) (rest := [.int (hq_hb tx i sd b)]) hx hb hml hown hts (c_M_block l D G A Z h fs ta tx (i + (4 * b)) 4 (by first | assumption | rfl) (by first | assumption | omega)) yy_M_block lk_M_151 hA hK hN hS hPc hDc 0 8 rfl rfl rfl hl.1 rfl (Nat.le_of_ble_eq_true rfl) d_M_hashOf_58 ⟨by decide, by decide⟩ ⟨by decide, by decide⟩) hS (fun H locs hP hD hS => ?_)
          have hP : va_P D hq_cl ([(h, .inr (8, fs)), hq_ai ta (G 0) 2000 tx] ++ Z) H := hP
          have hD : va_D A ([(h, .inr (8, fs)), hq_ai ta (G 0) 2000 tx] ++ Z) := hD
          refine hq_topi (x' := hq_b4 tx (i + 4 * b)) (rfl) ?_
          have hPc : va_P D hq_cl ([] ++ ([(h, .inr (8, fs)), hq_ai ta (G 0) 2000 tx] ++ Z)) H := hP
          have hDc : va_D A ([] ++ ([(h, .inr (8, fs)), hq_ai ta (G 0) 2000 tx] ++ Z)) := hD
          refine hq_iF (hq_rS (As := [.int (hq_b4 tx (i + 4 * b))]) (rest := [.int (hq_hb tx i sd b)]) hx hb hml hown hts (c_M_mixed l D G A ([(h, .inr (8, fs)), hq_ai ta (G 0) 2000 tx] ++ Z) (hq_b4 tx (i + 4 * b))) yy_M_mixed lk_M_154 hA hK hN hS hPc hDc rfl hl.1 rfl (Nat.le_of_ble_eq_true rfl) d_M_hashOf_61 ⟨by decide, by decide⟩ ⟨by decide, by decide⟩) hS (fun H locs hP hD hS => ?_)
          have hP : va_P D hq_cl ([(h, .inr (8, fs)), hq_ai ta (G 0) 2000 tx] ++ Z) H := hP
          have hD : va_D A ([(h, .inr (8, fs)), hq_ai ta (G 0) 2000 tx] ++ Z) := hD
          refine hq_topi (x' := f_NameHash_mixed (hq_b4 tx (i + 4 * b))) (rfl) ?_
          refine lv_ixor hx hb d_M_hashOf_64 ?_
          refine lv_istore (nL := 7) (lv' := [(5, .int ((hq_hb tx i sd b) ^^^ (f_NameHash_mixed (hq_b4 tx (i + 4 * b))))), (0, .ref h), (1, .int (nI i)), (2, .int (nI j)), (4, .int (nI (j - i))), (6, .int (nI b))]) hx hb d_M_hashOf_65 hl (by decide) rfl (fun ls hl => ?_)
          refine lv_iload hx hb d_M_hashOf_67 (lv_at hl 0 rfl) ?_
          refine lv_bipush (v := 13) hx hb d_M_hashOf_69 (by decide) ?_
          have hPc : va_P D hq_cl ([] ++ ([(h, .inr (8, fs)), hq_ai ta (G 0) 2000 tx] ++ Z)) H := hP
          have hDc : va_D A ([] ++ ([(h, .inr (8, fs)), hq_ai ta (G 0) 2000 tx] ++ Z)) := hD
          refine hq_iF (hq_rS (As := [.int ((hq_hb tx i sd b) ^^^ (f_NameHash_mixed (hq_b4 tx (i + 4 * b)))), .int 13]) (rest := []) hx hb hml hown hts (c_M_roll l D G A ([(h, .inr (8, fs)), hq_ai ta (G 0) 2000 tx] ++ Z) ((hq_hb tx i sd b) ^^^ (f_NameHash_mixed (hq_b4 tx (i + 4 * b)))) 13) yy_M_roll lk_M_147 hA hK hN hS hPc hDc rfl hl.1 rfl (Nat.le_of_ble_eq_true rfl) d_M_hashOf_71 ⟨by decide, by decide⟩ ⟨by decide, by decide⟩) hS (fun H locs hP hD hS => ?_)
          have hP : va_P D hq_cl ([(h, .inr (8, fs)), hq_ai ta (G 0) 2000 tx] ++ Z) H := hP
          have hD : va_D A ([(h, .inr (8, fs)), hq_ai ta (G 0) 2000 tx] ++ Z) := hD
          refine hq_topi (x' := f_NameHash_roll ((hq_hb tx i sd b) ^^^ (f_NameHash_mixed (hq_b4 tx (i + 4 * b)))) 13) (rfl) ?_
          refine lv_iconst (v := 5) hx hb d_M_hashOf_74 (by decide) ?_
          refine lv_imul hx hb d_M_hashOf_75 ?_
          refine lv_ldc (v := (-430675100)) hx hb hown (hts _ ki_M_158) d_M_hashOf_76 ?_
          refine lv_iadd hx hb d_M_hashOf_78 ?_
          refine hq_topi (x' := hq_hb tx i sd (b + 1)) ((hq_hb_s tx i sd b).symm) ?_
          refine lv_istore (nL := 7) (lv' := [(5, .int (hq_hb tx i sd (b + 1))), (0, .ref h), (1, .int (nI i)), (2, .int (nI j)), (4, .int (nI (j - i))), (6, .int (nI b))]) hx hb d_M_hashOf_79 hl (by decide) rfl (fun ls hl => ?_)
          refine lv_iinc (nL := 7) (k := 5) (v := nI (b + 1)) (lv' := [(6, .int (nI (b + 1))), (5, .int (hq_hb tx i sd (b + 1))), (0, .ref h), (1, .int (nI i)), (2, .int (nI j)), (4, .int (nI (j - i)))]) hx hb d_M_hashOf_81 hl rfl (nI_add b 1) (by decide) rfl (fun ls hl => ?_)
          refine lv_goto (tgt := 39) hx hb d_M_hashOf_84 rfl ?_
          exact ih _ (by omega) (b + 1) ls H locs rfl (by first | assumption | omega) (lv_sub hl [2, 3, 4, 5, 1, 0] rfl) hP hD hS
    exact cut39 _ 0 ls H locs rfl (by first | assumption | omega) (lv_sub hl [2, 3, 4, 6, 1, 0] rfl) hP hD hS
  refine lv_iload_n hx hb d_M_hashOf_0 rfl (lv_at hl 2 rfl) ?_
  refine lv_iload_n hx hb d_M_hashOf_1 rfl (lv_at hl 1 rfl) ?_
  refine lv_isub hx hb d_M_hashOf_2 ?_
  refine hq_topi (x' := nI (j - i)) (pk_sub (by omega)) ?_
  refine lv_istore (nL := 7) (lv' := [(4, .int (nI (j - i))), (0, .ref h), (1, .int (nI i)), (2, .int (nI j)), (3, .int sd)]) hx hb d_M_hashOf_3 hl (by decide) rfl (fun ls hl => ?_)
  refine lv_iload hx hb d_M_hashOf_5 (lv_at hl 0 rfl) ?_
  refine lv_bipush (v := 9) hx hb d_M_hashOf_7 (by decide) ?_
  refine lv_icmp_gt (tgt := 33) hx hb d_M_hashOf_9 rfl (fun c9 => ?_) (fun c9 => ?_)
  · -- 9 taken
    have c9 : 9 < (j - i) := (nI_ltI (a := 9) (b := j - i) (by omega) (by omega)).mp c9
    exact cut33 ls H locs (by rw [hq_areD_long (t := tx) (m := 9) (i := i) (j := j) (by omega)]; decide) (lv_sub hl [1, 2, 3, 4, 0] rfl) hP hD hS
  · -- 9 not taken
    have c9 : ¬ 9 < (j - i) := fun h => c9 ((nI_ltI (a := 9) (b := j - i) (by omega) (by omega)).mpr h)
    refine lv_aload_n hx hb d_M_hashOf_12 rfl (lv_at hl 1 rfl) ?_
    refine lv_iload_n hx hb d_M_hashOf_13 rfl (lv_at hl 2 rfl) ?_
    refine lv_iload_n hx hb d_M_hashOf_14 rfl (lv_at hl 3 rfl) ?_
    have hPc : va_P D hq_cl ([(h, .inr (8, fs)), hq_ai ta (G 0) 2000 tx] ++ Z) H := hP
    have hDc : va_D A ([(h, .inr (8, fs)), hq_ai ta (G 0) 2000 tx] ++ Z) := hD
    refine hq_iF (hq_rV (As := [.int (nI i), .int (nI j)]) (rest := []) hx hb hml hown hts (c_M_digits l D G A Z h fs ta tx i j (by first | assumption | rfl) (by first | assumption | omega) (by first | assumption | omega)) yy_M_digits lk_M_89 hA hK hN hS hPc hDc 0 8 rfl rfl rfl hl.1 rfl (Nat.le_of_ble_eq_true rfl) d_M_hashOf_15 ⟨by decide, by decide⟩ ⟨by decide, by decide⟩) hS (fun H locs hP hD hS => ?_)
    have hP : va_P D hq_cl ([(h, .inr (8, fs)), hq_ai ta (G 0) 2000 tx] ++ Z) H := hP
    have hD : va_D A ([(h, .inr (8, fs)), hq_ai ta (G 0) 2000 tx] ++ Z) := hD
    have hp := hq_ndg_le tx (j - i) i
    refine lv_iload hx hb d_M_hashOf_18 (lv_at hl 0 rfl) ?_
    refine lv_icmp_ne (tgt := 33) hx hb d_M_hashOf_20 rfl (fun c20 => ?_) (fun c20 => ?_)
    · -- 20 taken
      have c20 : ¬ (hq_ndg tx i (j - i)) = (j - i) := fun h => c20 ((nI_eq (a := hq_ndg tx i (j - i)) (b := j - i) (by omega) (by omega)).mpr h)
      exact cut33 ls H locs (fun h9 => c20 (hq_areD_ndg hi h9)) (lv_sub hl [1, 2, 3, 4, 0] rfl) hP hD hS
    · -- 20 not taken
      have c20 : (hq_ndg tx i (j - i)) = (j - i) := (nI_eq (a := hq_ndg tx i (j - i)) (b := j - i) (by omega) (by omega)).mp c20
      refine lv_aload_n hx hb d_M_hashOf_23 rfl (lv_at hl 1 rfl) ?_
      refine lv_iload_n hx hb d_M_hashOf_24 rfl (lv_at hl 2 rfl) ?_
      refine lv_iload hx hb d_M_hashOf_25 (lv_at hl 0 rfl) ?_
      have hPc : va_P D hq_cl ([(h, .inr (8, fs)), hq_ai ta (G 0) 2000 tx] ++ Z) H := hP
      have hDc : va_D A ([(h, .inr (8, fs)), hq_ai ta (G 0) 2000 tx] ++ Z) := hD
      refine hq_iF (hq_rV (As := [.int (nI i), .int (nI (j - i))]) (rest := []) hx hb hml hown hts (c_M_read l D G A Z h fs ta tx i (j - i) (by first | assumption | rfl) (by first | assumption | omega)) yy_M_read lk_M_94 hA hK hN hS hPc hDc 0 8 rfl rfl rfl hl.1 rfl (Nat.le_of_ble_eq_true rfl) d_M_hashOf_27 ⟨by decide, by decide⟩ ⟨by decide, by decide⟩) hS (fun H locs hP hD hS => ?_)
      have hP : va_P D hq_cl ([(h, .inr (8, fs)), hq_ai ta (G 0) 2000 tx] ++ Z) H := hP
      have hD : va_D A ([(h, .inr (8, fs)), hq_ai ta (G 0) 2000 tx] ++ Z) := hD
      refine lv_iload_n hx hb d_M_hashOf_30 rfl (lv_at hl 4 rfl) ?_
      refine lv_iadd hx hb d_M_hashOf_31 ?_
      exact hret ((hq_dec tx i (j - i) 0) + sd) () H locs 32 ls d_M_hashOf_32 (by rw [hq_hash, if_pos (hq_ndg_areD hi c9 c20)]) hP hD hS
theorem d_M_slot_0 : decode b_M_slot 0 = .ok (.aload_n 0, 1) := by decide +kernel
theorem d_M_slot_1 : decode b_M_slot 1 = .ok (.getfield 34, 3) := by decide +kernel
theorem d_M_slot_4 : decode b_M_slot 4 = .ok (.iload_n 1, 1) := by decide +kernel
theorem d_M_slot_5 : decode b_M_slot 5 = .ok (.iaload, 1) := by decide +kernel
theorem d_M_slot_6 : decode b_M_slot 6 = .ok (.aload_n 0, 1) := by decide +kernel
theorem d_M_slot_7 : decode b_M_slot 7 = .ok (.getfield 57, 3) := by decide +kernel
theorem d_M_slot_10 : decode b_M_slot 10 = .ok (.iconst 1, 1) := by decide +kernel
theorem d_M_slot_11 : decode b_M_slot 11 = .ok (.isub, 1) := by decide +kernel
theorem d_M_slot_12 : decode b_M_slot 12 = .ok (.iand, 1) := by decide +kernel
theorem d_M_slot_13 : decode b_M_slot 13 = .ok (.ireturn, 1) := by decide +kernel
set_option maxHeartbeats 4000000 in
set_option maxRecDepth 100000 in
theorem c_M_slot (l : Launch) (D : va_G) (G : Nat → ClassId) (A : Nat → Prop) (Z : va_W) (h : Nat) (fs : List Value) (n : Nat) (tha : Nat) (th : Nat → Int32) (k : Nat) (hf0 : fs[0]? = some (.int (nI n))) (hf21 : fs[21]? = some (.ref tha)) (hn : hq_pow n) (hk : k < 120) : hq_FI l D G A y_M_slot b_M_slot 2 .int 0 [.ref h, .int (nI k)] ([(h, .inr (8, fs)), hq_ai tha (G 0) 120 th] ++ Z) (nI (hq_slot n (th k))) ([(h, .inr (8, fs)), hq_ai tha (G 0) 120 th] ++ Z) := by
  refine hq_bI (by decide) (Nat.le_of_ble_eq_true rfl) (fun _ _ _ => rfl) ?_
  intro p e s m args below meth c Q hx hb hml hts hown hA hK hN hret ls H locs hl hP hD hS
  have hown : s.vm.findClass "HashedLearnerModel" = some m.cls := hown
  have hl : lv_has ls 2 [(0, .ref h), (1, .int (nI k))] := hl
  refine lv_aload_n hx hb d_M_slot_0 rfl (lv_at hl 0 rfl) ?_
  refine va_get (D := D) (ci := 8) (v := .ref tha) (C := R_M) (T := F_M) (N := 34) hx hb hts uw_M hown hK hP 0 rfl rfl 21 (by decide) (hts _ fl_M_34) (fun _ h9 => h9) hf21 d_M_slot_1 ?_
  refine lv_iload_n hx hb d_M_slot_4 rfl (lv_at hl 1 rfl) ?_
  refine hq_iald (j := k) hx hb hK hP 1 rfl (by omega) (by omega) d_M_slot_5 ?_
  refine lv_aload_n hx hb d_M_slot_6 rfl (lv_at hl 0 rfl) ?_
  refine va_get (D := D) (ci := 8) (v := .int (nI n)) (C := R_M) (T := F_M) (N := 34) hx hb hts uw_M hown hK hP 0 rfl rfl 0 (by decide) (hts _ fl_M_57) (fun _ h9 => h9) hf0 d_M_slot_7 ?_
  refine lv_iconst (v := 1) hx hb d_M_slot_10 (by decide) ?_
  refine lv_isub hx hb d_M_slot_11 ?_
  refine lv_iand hx hb d_M_slot_12 ?_
  refine hq_topi (x' := nI (hq_slot n (th k))) (hq_slot_and hn _) ?_
  exact hret (nI (hq_slot n (th k))) () H locs 13 ls d_M_slot_13 (rfl) hP hD hS
theorem d_M_gradient_0 : decode b_M_gradient 0 = .ok (.aload_n 0, 1) := by decide +kernel
theorem d_M_gradient_1 : decode b_M_gradient 1 = .ok (.getfield 61, 3) := by decide +kernel
theorem d_M_gradient_4 : decode b_M_gradient 4 = .ok (.ifCond .ne (17), 3) := by decide +kernel
theorem d_M_gradient_7 : decode b_M_gradient 7 = .ok (.lload_n 1, 1) := by decide +kernel
theorem d_M_gradient_8 : decode b_M_gradient 8 = .ok (.aload_n 0, 1) := by decide +kernel
theorem d_M_gradient_9 : decode b_M_gradient 9 = .ok (.getfield 97, 3) := by decide +kernel
theorem d_M_gradient_12 : decode b_M_gradient 12 = .ok (.i2l, 1) := by decide +kernel
theorem d_M_gradient_13 : decode b_M_gradient 13 = .ok (.lsub, 1) := by decide +kernel
theorem d_M_gradient_14 : decode b_M_gradient 14 = .ok (.ldc2_w 180, 3) := by decide +kernel
theorem d_M_gradient_17 : decode b_M_gradient 17 = .ok (.invokestatic 132, 3) := by decide +kernel
theorem d_M_gradient_20 : decode b_M_gradient 20 = .ok (.lreturn, 1) := by decide +kernel
theorem d_M_gradient_21 : decode b_M_gradient 21 = .ok (.aload_n 0, 1) := by decide +kernel
theorem d_M_gradient_22 : decode b_M_gradient 22 = .ok (.getfield 61, 3) := by decide +kernel
theorem d_M_gradient_25 : decode b_M_gradient 25 = .ok (.iconst 1, 1) := by decide +kernel
theorem d_M_gradient_26 : decode b_M_gradient 26 = .ok (.if_icmp .ne (37), 3) := by decide +kernel
theorem d_M_gradient_29 : decode b_M_gradient 29 = .ok (.aload_n 0, 1) := by decide +kernel
theorem d_M_gradient_30 : decode b_M_gradient 30 = .ok (.getfield 97, 3) := by decide +kernel
theorem d_M_gradient_33 : decode b_M_gradient 33 = .ok (.ifCond .lt (7), 3) := by decide +kernel
theorem d_M_gradient_36 : decode b_M_gradient 36 = .ok (.iconst 1, 1) := by decide +kernel
theorem d_M_gradient_37 : decode b_M_gradient 37 = .ok (.goto (4), 3) := by decide +kernel
theorem d_M_gradient_40 : decode b_M_gradient 40 = .ok (.iconst (-1), 1) := by decide +kernel
theorem d_M_gradient_41 : decode b_M_gradient 41 = .ok (.istore_n 3, 1) := by decide +kernel
theorem d_M_gradient_42 : decode b_M_gradient 42 = .ok (.iload_n 3, 1) := by decide +kernel
theorem d_M_gradient_43 : decode b_M_gradient 43 = .ok (.i2l, 1) := by decide +kernel
theorem d_M_gradient_44 : decode b_M_gradient 44 = .ok (.lload_n 1, 1) := by decide +kernel
theorem d_M_gradient_45 : decode b_M_gradient 45 = .ok (.lmul, 1) := by decide +kernel
theorem d_M_gradient_46 : decode b_M_gradient 46 = .ok (.ldc2_w 128, 3) := by decide +kernel
theorem d_M_gradient_49 : decode b_M_gradient 49 = .ok (.lcmp, 1) := by decide +kernel
theorem d_M_gradient_50 : decode b_M_gradient 50 = .ok (.ifCond .lt (7), 3) := by decide +kernel
theorem d_M_gradient_53 : decode b_M_gradient 53 = .ok (.lconst 0, 1) := by decide +kernel
theorem d_M_gradient_54 : decode b_M_gradient 54 = .ok (.goto (8), 3) := by decide +kernel
theorem d_M_gradient_57 : decode b_M_gradient 57 = .ok (.bipush (-100), 2) := by decide +kernel
theorem d_M_gradient_59 : decode b_M_gradient 59 = .ok (.iload_n 3, 1) := by decide +kernel
theorem d_M_gradient_60 : decode b_M_gradient 60 = .ok (.imul, 1) := by decide +kernel
theorem d_M_gradient_61 : decode b_M_gradient 61 = .ok (.i2l, 1) := by decide +kernel
theorem d_M_gradient_62 : decode b_M_gradient 62 = .ok (.lreturn, 1) := by decide +kernel
theorem d_M_gradient_63 : decode b_M_gradient 63 = .ok (.lload_n 1, 1) := by decide +kernel
theorem d_M_gradient_64 : decode b_M_gradient 64 = .ok (.aload_n 0, 1) := by decide +kernel
theorem d_M_gradient_65 : decode b_M_gradient 65 = .ok (.getfield 97, 3) := by decide +kernel
theorem d_M_gradient_68 : decode b_M_gradient 68 = .ok (.i2l, 1) := by decide +kernel
theorem d_M_gradient_69 : decode b_M_gradient 69 = .ok (.lcmp, 1) := by decide +kernel
theorem d_M_gradient_70 : decode b_M_gradient 70 = .ok (.ifCond .le (9), 3) := by decide +kernel
theorem d_M_gradient_73 : decode b_M_gradient 73 = .ok (.ldc2_w 182, 3) := by decide +kernel
theorem d_M_gradient_76 : decode b_M_gradient 76 = .ok (.goto (20), 3) := by decide +kernel
theorem d_M_gradient_79 : decode b_M_gradient 79 = .ok (.lload_n 1, 1) := by decide +kernel
theorem d_M_gradient_80 : decode b_M_gradient 80 = .ok (.aload_n 0, 1) := by decide +kernel
theorem d_M_gradient_81 : decode b_M_gradient 81 = .ok (.getfield 97, 3) := by decide +kernel
theorem d_M_gradient_84 : decode b_M_gradient 84 = .ok (.i2l, 1) := by decide +kernel
theorem d_M_gradient_85 : decode b_M_gradient 85 = .ok (.lcmp, 1) := by decide +kernel
theorem d_M_gradient_86 : decode b_M_gradient 86 = .ok (.ifCond .ge (9), 3) := by decide +kernel
theorem d_M_gradient_89 : decode b_M_gradient 89 = .ok (.ldc2_w 184, 3) := by decide +kernel
theorem d_M_gradient_92 : decode b_M_gradient 92 = .ok (.goto (4), 3) := by decide +kernel
theorem d_M_gradient_95 : decode b_M_gradient 95 = .ok (.lconst 0, 1) := by decide +kernel
theorem d_M_gradient_96 : decode b_M_gradient 96 = .ok (.lreturn, 1) := by decide +kernel
def f_M_gradient (kd : Int32) (lb : Int32) (pr : Int64) : Int64 := if kd = 0 then f_M_clip (pr - (Int32.toInt64 lb)) 100000 else if kd = 1 then if lb < 0 then if ((Int32.toInt64 (-1)) * pr) < 100 then Int32.toInt64 ((-100) * (-1)) else 0 else if ((Int32.toInt64 1) * pr) < 100 then Int32.toInt64 ((-100) * 1) else 0 else if pr ≤ (Int32.toInt64 lb) then if (Int32.toInt64 lb) ≤ pr then 0 else (-25) else 75
set_option maxHeartbeats 4000000 in
set_option maxRecDepth 100000 in
theorem c_M_gradient (l : Launch) (D : va_G) (G : Nat → ClassId) (A : Nat → Prop) (Z : va_W) (h : Nat) (fs : List Value) (kd : Int32) (lb : Int32) (pr : Int64) (hf1 : fs[1]? = some (.int kd)) (hf13 : fs[13]? = some (.int lb)) : hq_FL l D G A y_M_gradient b_M_gradient 4 1 [.ref h, .long pr] ([(h, .inr (8, fs))] ++ Z) (f_M_gradient kd lb pr) ([(h, .inr (8, fs))] ++ Z) := by
  refine hq_bL (by decide) (Nat.le_of_ble_eq_true rfl) ?_
  intro p e s m args below meth c Q hx hb hml hts hown hA hK hN hret ls H locs hl hP hD hS
  have hown : s.vm.findClass "HashedLearnerModel" = some m.cls := hown
  have hl : lv_has ls 4 [(0, .ref h), (1, .long pr)] := hl
  refine lv_aload_n hx hb d_M_gradient_0 rfl (lv_at hl 0 rfl) ?_
  refine va_get (D := D) (ci := 8) (v := .int kd) (C := R_M) (T := F_M) (N := 34) hx hb hts uw_M hown hK hP 0 rfl rfl 1 (by decide) (hts _ fl_M_61) (fun _ h9 => h9) hf1 d_M_gradient_1 ?_
  refine lv_if_ne (tgt := 21) hx hb d_M_gradient_4 rfl (fun c4 => ?_) (fun c4 => ?_)
  · -- 4 taken
    have c4 : ¬ kd = 0 := c4
    refine lv_aload_n hx hb d_M_gradient_21 rfl (lv_at hl 0 rfl) ?_
    refine va_get (D := D) (ci := 8) (v := .int kd) (C := R_M) (T := F_M) (N := 34) hx hb hts uw_M hown hK hP 0 rfl rfl 1 (by decide) (hts _ fl_M_61) (fun _ h9 => h9) hf1 d_M_gradient_22 ?_
    refine lv_iconst (v := 1) hx hb d_M_gradient_25 (by decide) ?_
    refine lv_icmp_ne (tgt := 63) hx hb d_M_gradient_26 rfl (fun c26 => ?_) (fun c26 => ?_)
    · -- 26 taken
      have c26 : ¬ kd = 1 := c26
      refine lv_lload_n hx hb d_M_gradient_63 rfl (lv_at hl 1 rfl) ?_
      refine lv_aload_n hx hb d_M_gradient_64 rfl (lv_at hl 0 rfl) ?_
      refine va_get (D := D) (ci := 8) (v := .int lb) (C := R_M) (T := F_M) (N := 34) hx hb hts uw_M hown hK hP 0 rfl rfl 13 (by decide) (hts _ fl_M_97) (fun _ h9 => h9) hf13 d_M_gradient_65 ?_
      refine lv_i2l (v := Int32.toInt64 lb) hx hb d_M_gradient_68 rfl ?_
      refine W.lcmp hx hb d_M_gradient_69 ?_
      refine lv_if_le (tgt := 79) hx hb d_M_gradient_70 rfl (fun c70 => ?_) (fun c70 => ?_)
      · -- 70 taken
        have c70 : pr ≤ (Int32.toInt64 lb) := (lg_cmp_le pr (Int32.toInt64 lb)).mp c70
        refine lv_lload_n hx hb d_M_gradient_79 rfl (lv_at hl 1 rfl) ?_
        refine lv_aload_n hx hb d_M_gradient_80 rfl (lv_at hl 0 rfl) ?_
        refine va_get (D := D) (ci := 8) (v := .int lb) (C := R_M) (T := F_M) (N := 34) hx hb hts uw_M hown hK hP 0 rfl rfl 13 (by decide) (hts _ fl_M_97) (fun _ h9 => h9) hf13 d_M_gradient_81 ?_
        refine lv_i2l (v := Int32.toInt64 lb) hx hb d_M_gradient_84 rfl ?_
        refine W.lcmp hx hb d_M_gradient_85 ?_
        refine lv_if_ge (tgt := 95) hx hb d_M_gradient_86 rfl (fun c86 => ?_) (fun c86 => ?_)
        · -- 86 taken
          have c86 : (Int32.toInt64 lb) ≤ pr := (lg_cmp_ge pr (Int32.toInt64 lb)).mp c86
          refine lv_lconst (v := 0) hx hb d_M_gradient_95 (by decide) ?_
          exact hret 0 () H locs 96 ls d_M_gradient_96 (by rw [f_M_gradient, if_neg c4, if_neg c26, if_pos c70, if_pos c86] <;> rfl) hP hD hS
        · -- 86 not taken
          have c86 : ¬ (Int32.toInt64 lb) ≤ pr := fun h => c86 ((lg_cmp_ge pr (Int32.toInt64 lb)).mpr h)
          refine lv_ldc2 (v := (-25)) hx hb hown (hts _ kl_M_184) d_M_gradient_89 ?_
          refine lv_goto (tgt := 96) hx hb d_M_gradient_92 rfl ?_
          exact hret (-25) () H locs 96 ls d_M_gradient_96 (by rw [f_M_gradient, if_neg c4, if_neg c26, if_pos c70, if_neg c86] <;> rfl) hP hD hS
      · -- 70 not taken
        have c70 : ¬ pr ≤ (Int32.toInt64 lb) := fun h => c70 ((lg_cmp_le pr (Int32.toInt64 lb)).mpr h)
        refine lv_ldc2 (v := 75) hx hb hown (hts _ kl_M_182) d_M_gradient_73 ?_
        refine lv_goto (tgt := 96) hx hb d_M_gradient_76 rfl ?_
        exact hret 75 () H locs 96 ls d_M_gradient_96 (by rw [f_M_gradient, if_neg c4, if_neg c26, if_neg c70] <;> rfl) hP hD hS
    · -- 26 not taken
      have c26 : kd = 1 := c26
      refine lv_aload_n hx hb d_M_gradient_29 rfl (lv_at hl 0 rfl) ?_
      refine va_get (D := D) (ci := 8) (v := .int lb) (C := R_M) (T := F_M) (N := 34) hx hb hts uw_M hown hK hP 0 rfl rfl 13 (by decide) (hts _ fl_M_97) (fun _ h9 => h9) hf13 d_M_gradient_30 ?_
      refine lv_if_lt (tgt := 40) hx hb d_M_gradient_33 rfl (fun c33 => ?_) (fun c33 => ?_)
      · -- 33 taken
        have c33 : lb < 0 := c33
        refine lv_iconst (v := (-1)) hx hb d_M_gradient_40 (by decide) ?_
        refine lv_istore_n (nL := 4) (lv' := [(3, .int (-1)), (0, .ref h), (1, .long pr)]) hx hb d_M_gradient_41 rfl hl (by decide) rfl (fun ls hl => ?_)
        refine lv_iload_n hx hb d_M_gradient_42 rfl (lv_at hl 0 rfl) ?_
        refine lv_i2l (v := Int32.toInt64 (-1)) hx hb d_M_gradient_43 rfl ?_
        refine lv_lload_n hx hb d_M_gradient_44 rfl (lv_at hl 2 rfl) ?_
        refine lv_lmul hx hb d_M_gradient_45 ?_
        refine lv_ldc2 (v := 100) hx hb hown (hts _ kl_M_128) d_M_gradient_46 ?_
        refine W.lcmp hx hb d_M_gradient_49 ?_
        refine lv_if_lt (tgt := 57) hx hb d_M_gradient_50 rfl (fun c50 => ?_) (fun c50 => ?_)
        · -- 50 taken
          have c50 : ((Int32.toInt64 (-1)) * pr) < 100 := (lg_cmp_lt ((Int32.toInt64 (-1)) * pr) 100).mp c50
          refine lv_bipush (v := (-100)) hx hb d_M_gradient_57 (by decide) ?_
          refine lv_iload_n hx hb d_M_gradient_59 rfl (lv_at hl 0 rfl) ?_
          refine lv_imul hx hb d_M_gradient_60 ?_
          refine lv_i2l (v := Int32.toInt64 ((-100) * (-1))) hx hb d_M_gradient_61 rfl ?_
          exact hret (Int32.toInt64 ((-100) * (-1))) () H locs 62 ls d_M_gradient_62 (by rw [f_M_gradient, if_neg c4, if_pos c26, if_pos c33, if_pos c50] <;> rfl) hP hD hS
        · -- 50 not taken
          have c50 : ¬ ((Int32.toInt64 (-1)) * pr) < 100 := fun h => c50 ((lg_cmp_lt ((Int32.toInt64 (-1)) * pr) 100).mpr h)
          refine lv_lconst (v := 0) hx hb d_M_gradient_53 (by decide) ?_
          refine lv_goto (tgt := 62) hx hb d_M_gradient_54 rfl ?_
          exact hret 0 () H locs 62 ls d_M_gradient_62 (by rw [f_M_gradient, if_neg c4, if_pos c26, if_pos c33, if_neg c50] <;> rfl) hP hD hS
      · -- 33 not taken
        have c33 : ¬ lb < 0 := c33
        refine lv_iconst (v := 1) hx hb d_M_gradient_36 (by decide) ?_
        refine lv_goto (tgt := 41) hx hb d_M_gradient_37 rfl ?_
        refine lv_istore_n (nL := 4) (lv' := [(3, .int 1), (0, .ref h), (1, .long pr)]) hx hb d_M_gradient_41 rfl hl (by decide) rfl (fun ls hl => ?_)
        refine lv_iload_n hx hb d_M_gradient_42 rfl (lv_at hl 0 rfl) ?_
        refine lv_i2l (v := Int32.toInt64 1) hx hb d_M_gradient_43 rfl ?_
        refine lv_lload_n hx hb d_M_gradient_44 rfl (lv_at hl 2 rfl) ?_
        refine lv_lmul hx hb d_M_gradient_45 ?_
        refine lv_ldc2 (v := 100) hx hb hown (hts _ kl_M_128) d_M_gradient_46 ?_
        refine W.lcmp hx hb d_M_gradient_49 ?_
        refine lv_if_lt (tgt := 57) hx hb d_M_gradient_50 rfl (fun c50 => ?_) (fun c50 => ?_)
        · -- 50 taken
          have c50 : ((Int32.toInt64 1) * pr) < 100 := (lg_cmp_lt ((Int32.toInt64 1) * pr) 100).mp c50
          refine lv_bipush (v := (-100)) hx hb d_M_gradient_57 (by decide) ?_
          refine lv_iload_n hx hb d_M_gradient_59 rfl (lv_at hl 0 rfl) ?_
          refine lv_imul hx hb d_M_gradient_60 ?_
          refine lv_i2l (v := Int32.toInt64 ((-100) * 1)) hx hb d_M_gradient_61 rfl ?_
          exact hret (Int32.toInt64 ((-100) * 1)) () H locs 62 ls d_M_gradient_62 (by rw [f_M_gradient, if_neg c4, if_pos c26, if_neg c33, if_pos c50] <;> rfl) hP hD hS
        · -- 50 not taken
          have c50 : ¬ ((Int32.toInt64 1) * pr) < 100 := fun h => c50 ((lg_cmp_lt ((Int32.toInt64 1) * pr) 100).mpr h)
          refine lv_lconst (v := 0) hx hb d_M_gradient_53 (by decide) ?_
          refine lv_goto (tgt := 62) hx hb d_M_gradient_54 rfl ?_
          exact hret 0 () H locs 62 ls d_M_gradient_62 (by rw [f_M_gradient, if_neg c4, if_pos c26, if_neg c33, if_neg c50] <;> rfl) hP hD hS
  · -- 4 not taken
    have c4 : kd = 0 := c4
    refine lv_lload_n hx hb d_M_gradient_7 rfl (lv_at hl 1 rfl) ?_
    refine lv_aload_n hx hb d_M_gradient_8 rfl (lv_at hl 0 rfl) ?_
    refine va_get (D := D) (ci := 8) (v := .int lb) (C := R_M) (T := F_M) (N := 34) hx hb hts uw_M hown hK hP 0 rfl rfl 13 (by decide) (hts _ fl_M_97) (fun _ h9 => h9) hf13 d_M_gradient_9 ?_
    refine lv_i2l (v := Int32.toInt64 lb) hx hb d_M_gradient_12 rfl ?_
    refine lv_lsub hx hb d_M_gradient_13 ?_
    refine lv_ldc2 (v := 100000) hx hb hown (hts _ kl_M_180) d_M_gradient_14 ?_
    have hPc : va_P D hq_cl ([] ++ ([(h, .inr (8, fs))] ++ Z)) H := hP
    have hDc : va_D A ([] ++ ([(h, .inr (8, fs))] ++ Z)) := hD
    refine hq_lF (hq_rS (As := [.long (pr - (Int32.toInt64 lb)), .long 100000]) (rest := []) hx hb hml hown hts (c_M_clip l D G A ([(h, .inr (8, fs))] ++ Z) (pr - (Int32.toInt64 lb)) 100000) yy_M_clip lk_M_132 hA hK hN hS hPc hDc rfl hl.1 rfl (Nat.le_of_ble_eq_true rfl) d_M_gradient_17 ⟨by decide, by decide⟩ ⟨by decide, by decide⟩) hS (fun H locs hP hD hS => ?_)
    have hP : va_P D hq_cl ([(h, .inr (8, fs))] ++ Z) H := hP
    have hD : va_D A ([(h, .inr (8, fs))] ++ Z) := hD
    exact hret (f_M_clip (pr - (Int32.toInt64 lb)) 100000) () H locs 20 ls d_M_gradient_20 (by rw [f_M_gradient, if_pos c4] <;> rfl) hP hD hS
theorem d_M_cost_0 : decode b_M_cost 0 = .ok (.lload_n 1, 1) := by decide +kernel
theorem d_M_cost_1 : decode b_M_cost 1 = .ok (.aload_n 0, 1) := by decide +kernel
theorem d_M_cost_2 : decode b_M_cost 2 = .ok (.getfield 97, 3) := by decide +kernel
theorem d_M_cost_5 : decode b_M_cost 5 = .ok (.i2l, 1) := by decide +kernel
theorem d_M_cost_6 : decode b_M_cost 6 = .ok (.lsub, 1) := by decide +kernel
theorem d_M_cost_7 : decode b_M_cost 7 = .ok (.lstore_n 3, 1) := by decide +kernel
theorem d_M_cost_8 : decode b_M_cost 8 = .ok (.aload_n 0, 1) := by decide +kernel
theorem d_M_cost_9 : decode b_M_cost 9 = .ok (.getfield 61, 3) := by decide +kernel
theorem d_M_cost_12 : decode b_M_cost 12 = .ok (.ifCond .ne (11), 3) := by decide +kernel
theorem d_M_cost_15 : decode b_M_cost 15 = .ok (.lload_n 3, 1) := by decide +kernel
theorem d_M_cost_16 : decode b_M_cost 16 = .ok (.lload_n 3, 1) := by decide +kernel
theorem d_M_cost_17 : decode b_M_cost 17 = .ok (.lmul, 1) := by decide +kernel
theorem d_M_cost_18 : decode b_M_cost 18 = .ok (.ldc2_w 128, 3) := by decide +kernel
theorem d_M_cost_21 : decode b_M_cost 21 = .ok (.ldiv, 1) := by decide +kernel
theorem d_M_cost_22 : decode b_M_cost 22 = .ok (.lreturn, 1) := by decide +kernel
theorem d_M_cost_23 : decode b_M_cost 23 = .ok (.aload_n 0, 1) := by decide +kernel
theorem d_M_cost_24 : decode b_M_cost 24 = .ok (.getfield 61, 3) := by decide +kernel
theorem d_M_cost_27 : decode b_M_cost 27 = .ok (.iconst 1, 1) := by decide +kernel
theorem d_M_cost_28 : decode b_M_cost 28 = .ok (.if_icmp .ne (36), 3) := by decide +kernel
theorem d_M_cost_31 : decode b_M_cost 31 = .ok (.ldc2_w 128, 3) := by decide +kernel
theorem d_M_cost_34 : decode b_M_cost 34 = .ok (.aload_n 0, 1) := by decide +kernel
theorem d_M_cost_35 : decode b_M_cost 35 = .ok (.getfield 97, 3) := by decide +kernel
theorem d_M_cost_38 : decode b_M_cost 38 = .ok (.ifCond .lt (7), 3) := by decide +kernel
theorem d_M_cost_41 : decode b_M_cost 41 = .ok (.lload_n 1, 1) := by decide +kernel
theorem d_M_cost_42 : decode b_M_cost 42 = .ok (.goto (5), 3) := by decide +kernel
theorem d_M_cost_45 : decode b_M_cost 45 = .ok (.lload_n 1, 1) := by decide +kernel
theorem d_M_cost_46 : decode b_M_cost 46 = .ok (.lneg, 1) := by decide +kernel
theorem d_M_cost_47 : decode b_M_cost 47 = .ok (.lsub, 1) := by decide +kernel
theorem d_M_cost_48 : decode b_M_cost 48 = .ok (.lstore 5, 2) := by decide +kernel
theorem d_M_cost_50 : decode b_M_cost 50 = .ok (.lload 5, 2) := by decide +kernel
theorem d_M_cost_52 : decode b_M_cost 52 = .ok (.lconst 0, 1) := by decide +kernel
theorem d_M_cost_53 : decode b_M_cost 53 = .ok (.lcmp, 1) := by decide +kernel
theorem d_M_cost_54 : decode b_M_cost 54 = .ok (.ifCond .le (8), 3) := by decide +kernel
theorem d_M_cost_57 : decode b_M_cost 57 = .ok (.lload 5, 2) := by decide +kernel
theorem d_M_cost_59 : decode b_M_cost 59 = .ok (.goto (4), 3) := by decide +kernel
theorem d_M_cost_62 : decode b_M_cost 62 = .ok (.lconst 0, 1) := by decide +kernel
theorem d_M_cost_63 : decode b_M_cost 63 = .ok (.lreturn, 1) := by decide +kernel
theorem d_M_cost_64 : decode b_M_cost 64 = .ok (.lload_n 3, 1) := by decide +kernel
theorem d_M_cost_65 : decode b_M_cost 65 = .ok (.lconst 0, 1) := by decide +kernel
theorem d_M_cost_66 : decode b_M_cost 66 = .ok (.lcmp, 1) := by decide +kernel
theorem d_M_cost_67 : decode b_M_cost 67 = .ok (.ifCond .le (15), 3) := by decide +kernel
theorem d_M_cost_70 : decode b_M_cost 70 = .ok (.ldc2_w 182, 3) := by decide +kernel
theorem d_M_cost_73 : decode b_M_cost 73 = .ok (.lload_n 3, 1) := by decide +kernel
theorem d_M_cost_74 : decode b_M_cost 74 = .ok (.lmul, 1) := by decide +kernel
theorem d_M_cost_75 : decode b_M_cost 75 = .ok (.ldc2_w 128, 3) := by decide +kernel
theorem d_M_cost_78 : decode b_M_cost 78 = .ok (.ldiv, 1) := by decide +kernel
theorem d_M_cost_79 : decode b_M_cost 79 = .ok (.goto (13), 3) := by decide +kernel
theorem d_M_cost_82 : decode b_M_cost 82 = .ok (.ldc2_w 186, 3) := by decide +kernel
theorem d_M_cost_85 : decode b_M_cost 85 = .ok (.lload_n 3, 1) := by decide +kernel
theorem d_M_cost_86 : decode b_M_cost 86 = .ok (.lneg, 1) := by decide +kernel
theorem d_M_cost_87 : decode b_M_cost 87 = .ok (.lmul, 1) := by decide +kernel
theorem d_M_cost_88 : decode b_M_cost 88 = .ok (.ldc2_w 128, 3) := by decide +kernel
theorem d_M_cost_91 : decode b_M_cost 91 = .ok (.ldiv, 1) := by decide +kernel
theorem d_M_cost_92 : decode b_M_cost 92 = .ok (.lreturn, 1) := by decide +kernel
def f_M_cost (kd : Int32) (lb : Int32) (pr : Int64) : Int64 := if kd = 0 then ((pr - (Int32.toInt64 lb)) * (pr - (Int32.toInt64 lb))) / 100 else if kd = 1 then if lb < 0 then if (100 - (-pr)) ≤ 0 then 0 else 100 - (-pr) else if (100 - pr) ≤ 0 then 0 else 100 - pr else if (pr - (Int32.toInt64 lb)) ≤ 0 then (25 * (-(pr - (Int32.toInt64 lb)))) / 100 else (75 * (pr - (Int32.toInt64 lb))) / 100
set_option maxHeartbeats 4000000 in
set_option maxRecDepth 100000 in
theorem c_M_cost (l : Launch) (D : va_G) (G : Nat → ClassId) (A : Nat → Prop) (Z : va_W) (h : Nat) (fs : List Value) (kd : Int32) (lb : Int32) (pr : Int64) (hf1 : fs[1]? = some (.int kd)) (hf13 : fs[13]? = some (.int lb)) : hq_FL l D G A y_M_cost b_M_cost 7 0 [.ref h, .long pr] ([(h, .inr (8, fs))] ++ Z) (f_M_cost kd lb pr) ([(h, .inr (8, fs))] ++ Z) := by
  refine hq_bL (by decide) (Nat.le_of_ble_eq_true rfl) ?_
  intro p e s m args below meth c Q hx hb hml hts hown hA hK hN hret ls H locs hl hP hD hS
  have hown : s.vm.findClass "HashedLearnerModel" = some m.cls := hown
  have hl : lv_has ls 7 [(0, .ref h), (1, .long pr)] := hl
  refine lv_lload_n hx hb d_M_cost_0 rfl (lv_at hl 1 rfl) ?_
  refine lv_aload_n hx hb d_M_cost_1 rfl (lv_at hl 0 rfl) ?_
  refine va_get (D := D) (ci := 8) (v := .int lb) (C := R_M) (T := F_M) (N := 34) hx hb hts uw_M hown hK hP 0 rfl rfl 13 (by decide) (hts _ fl_M_97) (fun _ h9 => h9) hf13 d_M_cost_2 ?_
  refine lv_i2l (v := Int32.toInt64 lb) hx hb d_M_cost_5 rfl ?_
  refine lv_lsub hx hb d_M_cost_6 ?_
  refine lv_lstore_n (nL := 7) (lv' := [(3, .long (pr - (Int32.toInt64 lb))), (0, .ref h), (1, .long pr)]) hx hb d_M_cost_7 rfl hl (by decide) rfl (fun ls hl => ?_)
  refine lv_aload_n hx hb d_M_cost_8 rfl (lv_at hl 1 rfl) ?_
  refine va_get (D := D) (ci := 8) (v := .int kd) (C := R_M) (T := F_M) (N := 34) hx hb hts uw_M hown hK hP 0 rfl rfl 1 (by decide) (hts _ fl_M_61) (fun _ h9 => h9) hf1 d_M_cost_9 ?_
  refine lv_if_ne (tgt := 23) hx hb d_M_cost_12 rfl (fun c12 => ?_) (fun c12 => ?_)
  · -- 12 taken
    have c12 : ¬ kd = 0 := c12
    refine lv_aload_n hx hb d_M_cost_23 rfl (lv_at hl 1 rfl) ?_
    refine va_get (D := D) (ci := 8) (v := .int kd) (C := R_M) (T := F_M) (N := 34) hx hb hts uw_M hown hK hP 0 rfl rfl 1 (by decide) (hts _ fl_M_61) (fun _ h9 => h9) hf1 d_M_cost_24 ?_
    refine lv_iconst (v := 1) hx hb d_M_cost_27 (by decide) ?_
    refine lv_icmp_ne (tgt := 64) hx hb d_M_cost_28 rfl (fun c28 => ?_) (fun c28 => ?_)
    · -- 28 taken
      have c28 : ¬ kd = 1 := c28
      refine lv_lload_n hx hb d_M_cost_64 rfl (lv_at hl 0 rfl) ?_
      refine lv_lconst (v := 0) hx hb d_M_cost_65 (by decide) ?_
      refine W.lcmp hx hb d_M_cost_66 ?_
      refine lv_if_le (tgt := 82) hx hb d_M_cost_67 rfl (fun c67 => ?_) (fun c67 => ?_)
      · -- 67 taken
        have c67 : (pr - (Int32.toInt64 lb)) ≤ 0 := (lg_cmp_le (pr - (Int32.toInt64 lb)) 0).mp c67
        refine lv_ldc2 (v := 25) hx hb hown (hts _ kl_M_186) d_M_cost_82 ?_
        refine lv_lload_n hx hb d_M_cost_85 rfl (lv_at hl 0 rfl) ?_
        refine lv_lneg hx hb d_M_cost_86 ?_
        refine lv_lmul hx hb d_M_cost_87 ?_
        refine lv_ldc2 (v := 100) hx hb hown (hts _ kl_M_128) d_M_cost_88 ?_
        refine lv_ldiv hx hb d_M_cost_91 (by decide) ?_
        exact hret ((25 * (-(pr - (Int32.toInt64 lb)))) / 100) () H locs 92 ls d_M_cost_92 (by rw [f_M_cost, if_neg c12, if_neg c28, if_pos c67] <;> rfl) hP hD hS
      · -- 67 not taken
        have c67 : ¬ (pr - (Int32.toInt64 lb)) ≤ 0 := fun h => c67 ((lg_cmp_le (pr - (Int32.toInt64 lb)) 0).mpr h)
        refine lv_ldc2 (v := 75) hx hb hown (hts _ kl_M_182) d_M_cost_70 ?_
        refine lv_lload_n hx hb d_M_cost_73 rfl (lv_at hl 0 rfl) ?_
        refine lv_lmul hx hb d_M_cost_74 ?_
        refine lv_ldc2 (v := 100) hx hb hown (hts _ kl_M_128) d_M_cost_75 ?_
        refine lv_ldiv hx hb d_M_cost_78 (by decide) ?_
        refine lv_goto (tgt := 92) hx hb d_M_cost_79 rfl ?_
        exact hret ((75 * (pr - (Int32.toInt64 lb))) / 100) () H locs 92 ls d_M_cost_92 (by rw [f_M_cost, if_neg c12, if_neg c28, if_neg c67] <;> rfl) hP hD hS
    · -- 28 not taken
      have c28 : kd = 1 := c28
      refine lv_ldc2 (v := 100) hx hb hown (hts _ kl_M_128) d_M_cost_31 ?_
      refine lv_aload_n hx hb d_M_cost_34 rfl (lv_at hl 1 rfl) ?_
      refine va_get (D := D) (ci := 8) (v := .int lb) (C := R_M) (T := F_M) (N := 34) hx hb hts uw_M hown hK hP 0 rfl rfl 13 (by decide) (hts _ fl_M_97) (fun _ h9 => h9) hf13 d_M_cost_35 ?_
      refine lv_if_lt (tgt := 45) hx hb d_M_cost_38 rfl (fun c38 => ?_) (fun c38 => ?_)
      · -- 38 taken
        have c38 : lb < 0 := c38
        refine lv_lload_n hx hb d_M_cost_45 rfl (lv_at hl 2 rfl) ?_
        refine lv_lneg hx hb d_M_cost_46 ?_
        refine lv_lsub hx hb d_M_cost_47 ?_
        refine lv_lstore (nL := 7) (lv' := [(5, .long (100 - (-pr))), (3, .long (pr - (Int32.toInt64 lb))), (0, .ref h), (1, .long pr)]) hx hb d_M_cost_48 hl (by decide) rfl (fun ls hl => ?_)
        refine lv_lload hx hb d_M_cost_50 (lv_at hl 0 rfl) ?_
        refine lv_lconst (v := 0) hx hb d_M_cost_52 (by decide) ?_
        refine W.lcmp hx hb d_M_cost_53 ?_
        refine lv_if_le (tgt := 62) hx hb d_M_cost_54 rfl (fun c54 => ?_) (fun c54 => ?_)
        · -- 54 taken
          have c54 : (100 - (-pr)) ≤ 0 := (lg_cmp_le (100 - (-pr)) 0).mp c54
          refine lv_lconst (v := 0) hx hb d_M_cost_62 (by decide) ?_
          exact hret 0 () H locs 63 ls d_M_cost_63 (by rw [f_M_cost, if_neg c12, if_pos c28, if_pos c38, if_pos c54] <;> rfl) hP hD hS
        · -- 54 not taken
          have c54 : ¬ (100 - (-pr)) ≤ 0 := fun h => c54 ((lg_cmp_le (100 - (-pr)) 0).mpr h)
          refine lv_lload hx hb d_M_cost_57 (lv_at hl 0 rfl) ?_
          refine lv_goto (tgt := 63) hx hb d_M_cost_59 rfl ?_
          exact hret (100 - (-pr)) () H locs 63 ls d_M_cost_63 (by rw [f_M_cost, if_neg c12, if_pos c28, if_pos c38, if_neg c54] <;> rfl) hP hD hS
      · -- 38 not taken
        have c38 : ¬ lb < 0 := c38
        refine lv_lload_n hx hb d_M_cost_41 rfl (lv_at hl 2 rfl) ?_
        refine lv_goto (tgt := 47) hx hb d_M_cost_42 rfl ?_
        refine lv_lsub hx hb d_M_cost_47 ?_
        refine lv_lstore (nL := 7) (lv' := [(5, .long (100 - pr)), (3, .long (pr - (Int32.toInt64 lb))), (0, .ref h), (1, .long pr)]) hx hb d_M_cost_48 hl (by decide) rfl (fun ls hl => ?_)
        refine lv_lload hx hb d_M_cost_50 (lv_at hl 0 rfl) ?_
        refine lv_lconst (v := 0) hx hb d_M_cost_52 (by decide) ?_
        refine W.lcmp hx hb d_M_cost_53 ?_
        refine lv_if_le (tgt := 62) hx hb d_M_cost_54 rfl (fun c54 => ?_) (fun c54 => ?_)
        · -- 54 taken
          have c54 : (100 - pr) ≤ 0 := (lg_cmp_le (100 - pr) 0).mp c54
          refine lv_lconst (v := 0) hx hb d_M_cost_62 (by decide) ?_
          exact hret 0 () H locs 63 ls d_M_cost_63 (by rw [f_M_cost, if_neg c12, if_pos c28, if_neg c38, if_pos c54] <;> rfl) hP hD hS
        · -- 54 not taken
          have c54 : ¬ (100 - pr) ≤ 0 := fun h => c54 ((lg_cmp_le (100 - pr) 0).mpr h)
          refine lv_lload hx hb d_M_cost_57 (lv_at hl 0 rfl) ?_
          refine lv_goto (tgt := 63) hx hb d_M_cost_59 rfl ?_
          exact hret (100 - pr) () H locs 63 ls d_M_cost_63 (by rw [f_M_cost, if_neg c12, if_pos c28, if_neg c38, if_neg c54] <;> rfl) hP hD hS
  · -- 12 not taken
    have c12 : kd = 0 := c12
    refine lv_lload_n hx hb d_M_cost_15 rfl (lv_at hl 0 rfl) ?_
    refine lv_lload_n hx hb d_M_cost_16 rfl (lv_at hl 0 rfl) ?_
    refine lv_lmul hx hb d_M_cost_17 ?_
    refine lv_ldc2 (v := 100) hx hb hown (hts _ kl_M_128) d_M_cost_18 ?_
    refine lv_ldiv hx hb d_M_cost_21 (by decide) ?_
    exact hret (((pr - (Int32.toInt64 lb)) * (pr - (Int32.toInt64 lb))) / 100) () H locs 22 ls d_M_cost_22 (by rw [f_M_cost, if_pos c12] <;> rfl) hP hD hS
theorem d_M_root_0 : decode b_M_root 0 = .ok (.lconst 0, 1) := by decide +kernel
theorem d_M_root_1 : decode b_M_root 1 = .ok (.lstore_n 2, 1) := by decide +kernel
theorem d_M_root_2 : decode b_M_root 2 = .ok (.ldc2_w 67, 3) := by decide +kernel
theorem d_M_root_5 : decode b_M_root 5 = .ok (.lstore 4, 2) := by decide +kernel
theorem d_M_root_7 : decode b_M_root 7 = .ok (.iconst 0, 1) := by decide +kernel
theorem d_M_root_8 : decode b_M_root 8 = .ok (.istore 6, 2) := by decide +kernel
theorem d_M_root_10 : decode b_M_root 10 = .ok (.iload 6, 2) := by decide +kernel
theorem d_M_root_12 : decode b_M_root 12 = .ok (.bipush (40), 2) := by decide +kernel
theorem d_M_root_14 : decode b_M_root 14 = .ok (.if_icmp .ge (48), 3) := by decide +kernel
theorem d_M_root_17 : decode b_M_root 17 = .ok (.lload 4, 2) := by decide +kernel
theorem d_M_root_19 : decode b_M_root 19 = .ok (.lload_n 2, 1) := by decide +kernel
theorem d_M_root_20 : decode b_M_root 20 = .ok (.lsub, 1) := by decide +kernel
theorem d_M_root_21 : decode b_M_root 21 = .ok (.lconst 1, 1) := by decide +kernel
theorem d_M_root_22 : decode b_M_root 22 = .ok (.lcmp, 1) := by decide +kernel
theorem d_M_root_23 : decode b_M_root 23 = .ok (.ifCond .le (39), 3) := by decide +kernel
theorem d_M_root_26 : decode b_M_root 26 = .ok (.lload_n 2, 1) := by decide +kernel
theorem d_M_root_27 : decode b_M_root 27 = .ok (.lload 4, 2) := by decide +kernel
theorem d_M_root_29 : decode b_M_root 29 = .ok (.ladd, 1) := by decide +kernel
theorem d_M_root_30 : decode b_M_root 30 = .ok (.ldc2_w 69, 3) := by decide +kernel
theorem d_M_root_33 : decode b_M_root 33 = .ok (.ldiv, 1) := by decide +kernel
theorem d_M_root_34 : decode b_M_root 34 = .ok (.lstore 7, 2) := by decide +kernel
theorem d_M_root_36 : decode b_M_root 36 = .ok (.lload 7, 2) := by decide +kernel
theorem d_M_root_38 : decode b_M_root 38 = .ok (.lload 7, 2) := by decide +kernel
theorem d_M_root_40 : decode b_M_root 40 = .ok (.lmul, 1) := by decide +kernel
theorem d_M_root_41 : decode b_M_root 41 = .ok (.lload_n 0, 1) := by decide +kernel
theorem d_M_root_42 : decode b_M_root 42 = .ok (.lcmp, 1) := by decide +kernel
theorem d_M_root_43 : decode b_M_root 43 = .ok (.ifCond .gt (9), 3) := by decide +kernel
theorem d_M_root_46 : decode b_M_root 46 = .ok (.lload 7, 2) := by decide +kernel
theorem d_M_root_48 : decode b_M_root 48 = .ok (.lstore_n 2, 1) := by decide +kernel
theorem d_M_root_49 : decode b_M_root 49 = .ok (.goto (7), 3) := by decide +kernel
theorem d_M_root_52 : decode b_M_root 52 = .ok (.lload 7, 2) := by decide +kernel
theorem d_M_root_54 : decode b_M_root 54 = .ok (.lstore 4, 2) := by decide +kernel
theorem d_M_root_56 : decode b_M_root 56 = .ok (.iinc 6 (1), 3) := by decide +kernel
theorem d_M_root_59 : decode b_M_root 59 = .ok (.goto (-49), 3) := by decide +kernel
theorem d_M_root_62 : decode b_M_root 62 = .ok (.lload_n 2, 1) := by decide +kernel
theorem d_M_root_63 : decode b_M_root 63 = .ok (.lreturn, 1) := by decide +kernel
set_option maxHeartbeats 4000000 in
set_option maxRecDepth 100000 in
theorem c_M_root (l : Launch) (D : va_G) (G : Nat → ClassId) (A : Nat → Prop) (Z : va_W) (v : Int64) (hv0 : 0 ≤ v.toInt) (hv1 : v.toInt ≤ 10000000000000000) : hq_FL l D G A y_M_root b_M_root 9 0 [.long v] ([] ++ Z) (hq_root v) ([] ++ Z) := by
  refine hq_bL (by decide) (Nat.le_of_ble_eq_true rfl) ?_
  intro p e s m args below meth c Q hx hb hml hts hown hA hK hN hret ls H locs hl hP hD hS
  have hown : s.vm.findClass "HashedLearnerModel" = some m.cls := hown
  have hl : lv_has ls 9 [(0, .long v)] := hl
  obtain ⟨w, hw, rfl⟩ := hq_l_of hv0 hv1
  refine lv_lconst (v := 0) hx hb d_M_root_0 (by decide) ?_
  refine lv_lstore_n (nL := 9) (lv' := [(2, .long 0), (0, .long (lN w))]) hx hb d_M_root_1 rfl hl (by decide) rfl (fun ls hl => ?_)
  refine lv_ldc2 (v := 100000001) hx hb hown (hts _ kl_M_67) d_M_root_2 ?_
  refine lv_lstore (nL := 9) (lv' := [(4, .long 100000001), (2, .long 0), (0, .long (lN w))]) hx hb d_M_root_5 hl (by decide) rfl (fun ls hl => ?_)
  refine lv_iconst (v := nI 0) hx hb d_M_root_7 (by decide) ?_
  refine lv_istore (nL := 9) (lv' := [(6, .int (nI 0)), (4, .long 100000001), (2, .long 0), (0, .long (lN w))]) hx hb d_M_root_8 hl (by decide) rfl (fun ls hl => ?_)
  have cut10 : ∀ (kz : Nat) (k : Nat) (lo : Nat) (hi : Nat) (ls : Array Slot) (H : Heap) (locs : List Loc), 40 - k = kz → (k ≤ 40) → (lo < hi) → (hi ≤ 100000001) → (hi - lo ≤ 2 ^ (27 - k)) → (lo * lo ≤ w) → (w < hi * hi) → lv_has ls 9 [(0, .long (lN w)), (2, .long (lN lo)), (4, .long (lN hi)), (6, .int (nI k))] → va_P D hq_cl ([] ++ Z) H → va_D A ([] ++ Z) → va_S A s.heap H locs → W p l e (hq_rm 0 0 0) s m args below meth c H locs 0 0 Q (F0 m 10 ls []) := by
    intro kz
    induction kz using Nat.strongRecOn with
    | ind kz ih =>
      intro k lo hi ls H locs hkz hk hlo hhi hd h1 h2 hl hP hD hS
      subst hkz
      refine lv_iload hx hb d_M_root_10 (lv_at hl 3 rfl) ?_
      refine lv_bipush (v := 40) hx hb d_M_root_12 (by decide) ?_
      refine lv_icmp_ge (tgt := 62) hx hb d_M_root_14 rfl (fun c14 => ?_) (fun c14 => ?_)
      · -- 14 taken
        have c14 : 40 ≤ k := (nI_leI (a := 40) (b := k) (by omega) (by omega)).mp c14
        refine lv_lload_n hx hb d_M_root_62 rfl (lv_at hl 1 rfl) ?_
        exact hret (lN lo) () H locs 63 ls d_M_root_63 (hq_root_fin h1 h2 hw (by first | omega | (have hh := hq_half40 hd c14; omega))) hP hD hS
      · -- 14 not taken
        have c14 : ¬ 40 ≤ k := fun h => c14 ((nI_leI (a := 40) (b := k) (by omega) (by omega)).mpr h)
        refine lv_lload hx hb d_M_root_17 (lv_at hl 2 rfl) ?_
        refine lv_lload_n hx hb d_M_root_19 rfl (lv_at hl 1 rfl) ?_
        refine lv_lsub hx hb d_M_root_20 ?_
        refine hq_topl (x' := lN (hi - lo)) (lN_sub (by omega)) ?_
        refine lv_lconst (v := 1) hx hb d_M_root_21 (by decide) ?_
        refine W.lcmp hx hb d_M_root_22 ?_
        refine lv_if_le (tgt := 62) hx hb d_M_root_23 rfl (fun c23 => ?_) (fun c23 => ?_)
        · -- 23 taken
          have c23 : (hi - lo) ≤ 1 := ((lg_cmp_le (lN (hi - lo)) 1).trans (pk_lLE (a := hi - lo) (b := 1) (by omega) (by omega))).mp c23
          refine lv_lload_n hx hb d_M_root_62 rfl (lv_at hl 1 rfl) ?_
          exact hret (lN lo) () H locs 63 ls d_M_root_63 (hq_root_fin h1 h2 hw (by first | omega | (have hh := hq_half40 hd c14; omega))) hP hD hS
        · -- 23 not taken
          have c23 : ¬ (hi - lo) ≤ 1 := fun h => c23 (((lg_cmp_le (lN (hi - lo)) 1).trans (pk_lLE (a := hi - lo) (b := 1) (by omega) (by omega))).mpr h)
          refine lv_lload_n hx hb d_M_root_26 rfl (lv_at hl 1 rfl) ?_
          refine lv_lload hx hb d_M_root_27 (lv_at hl 2 rfl) ?_
          refine lv_ladd hx hb d_M_root_29 ?_
          refine hq_topl (x' := lN (lo + hi)) (lN_add _ _) ?_
          refine lv_ldc2 (v := 2) hx hb hown (hts _ kl_M_69) d_M_root_30 ?_
          refine lv_ldiv hx hb d_M_root_33 (by decide) ?_
          refine hq_topl (x' := lN ((lo + hi) / 2)) (pk_lDiv (b := 2) (by omega) (by decide) (by decide)) ?_
          have hm1 : lo < (lo + hi) / 2 := by omega
          have hm2 : (lo + hi) / 2 < hi := by omega
          have hsm : ((lo + hi) / 2) * ((lo + hi) / 2) < 2 ^ 63 := Nat.lt_of_le_of_lt (Nat.mul_le_mul (show (lo + hi) / 2 ≤ 100000001 by omega) (show (lo + hi) / 2 ≤ 100000001 by omega)) (by decide)
          have hdd := hq_half (lo := lo) (hi := hi) (k := k) hd
          refine lv_lstore (nL := 9) (lv' := [(7, .long (lN ((lo + hi) / 2))), (0, .long (lN w)), (2, .long (lN lo)), (4, .long (lN hi)), (6, .int (nI k))]) hx hb d_M_root_34 hl (by decide) rfl (fun ls hl => ?_)
          refine lv_lload hx hb d_M_root_36 (lv_at hl 0 rfl) ?_
          refine lv_lload hx hb d_M_root_38 (lv_at hl 0 rfl) ?_
          refine lv_lmul hx hb d_M_root_40 ?_
          refine hq_topl (x' := lN (((lo + hi) / 2) * ((lo + hi) / 2))) (lN_mul _ _) ?_
          refine lv_lload_n hx hb d_M_root_41 rfl (lv_at hl 1 rfl) ?_
          refine W.lcmp hx hb d_M_root_42 ?_
          refine lv_if_gt (tgt := 52) hx hb d_M_root_43 rfl (fun c43 => ?_) (fun c43 => ?_)
          · -- 43 taken
            have c43 : w < (((lo + hi) / 2) * ((lo + hi) / 2)) := ((lg_cmp_gt (lN (((lo + hi) / 2) * ((lo + hi) / 2))) (lN w)).trans (pk_lLT (a := w) (b := ((lo + hi) / 2) * ((lo + hi) / 2)) (by omega) (hsm))).mp c43
            refine lv_lload hx hb d_M_root_52 (lv_at hl 0 rfl) ?_
            refine lv_lstore (nL := 9) (lv' := [(4, .long (lN ((lo + hi) / 2))), (7, .long (lN ((lo + hi) / 2))), (0, .long (lN w)), (2, .long (lN lo)), (6, .int (nI k))]) hx hb d_M_root_54 hl (by decide) rfl (fun ls hl => ?_)
            refine lv_iinc (nL := 9) (k := 4) (v := nI (k + 1)) (lv' := [(6, .int (nI (k + 1))), (4, .long (lN ((lo + hi) / 2))), (7, .long (lN ((lo + hi) / 2))), (0, .long (lN w)), (2, .long (lN lo))]) hx hb d_M_root_56 hl rfl (nI_add k 1) (by decide) rfl (fun ls hl => ?_)
            refine lv_goto (tgt := 10) hx hb d_M_root_59 rfl ?_
            exact ih _ (by omega) (k + 1) lo ((lo + hi) / 2) ls H locs rfl (by first | assumption | omega) (by first | assumption | omega) (by first | assumption | omega) (hdd.1) (by first | assumption | omega) (c43) (lv_sub hl [3, 4, 1, 0] rfl) hP hD hS
          · -- 43 not taken
            have c43 : ¬ w < (((lo + hi) / 2) * ((lo + hi) / 2)) := fun h => c43 (((lg_cmp_gt (lN (((lo + hi) / 2) * ((lo + hi) / 2))) (lN w)).trans (pk_lLT (a := w) (b := ((lo + hi) / 2) * ((lo + hi) / 2)) (by omega) (hsm))).mpr h)
            refine lv_lload hx hb d_M_root_46 (lv_at hl 0 rfl) ?_
            refine lv_lstore_n (nL := 9) (lv' := [(2, .long (lN ((lo + hi) / 2))), (7, .long (lN ((lo + hi) / 2))), (0, .long (lN w)), (4, .long (lN hi)), (6, .int (nI k))]) hx hb d_M_root_48 rfl hl (by decide) rfl (fun ls hl => ?_)
            refine lv_goto (tgt := 56) hx hb d_M_root_49 rfl ?_
            refine lv_iinc (nL := 9) (k := 4) (v := nI (k + 1)) (lv' := [(6, .int (nI (k + 1))), (2, .long (lN ((lo + hi) / 2))), (7, .long (lN ((lo + hi) / 2))), (0, .long (lN w)), (4, .long (lN hi))]) hx hb d_M_root_56 hl rfl (nI_add k 1) (by decide) rfl (fun ls hl => ?_)
            refine lv_goto (tgt := 10) hx hb d_M_root_59 rfl ?_
            exact ih _ (by omega) (k + 1) ((lo + hi) / 2) hi ls H locs rfl (by first | assumption | omega) (by first | assumption | omega) (by first | assumption | omega) (hdd.2) (Nat.not_lt.mp c43) (by first | assumption | omega) (lv_sub hl [3, 1, 4, 0] rfl) hP hD hS
  exact cut10 _ 0 0 100000001 ls H locs rfl (by first | assumption | omega) (by decide) (by decide) (by decide) (by omega) (Nat.lt_of_le_of_lt hw (by decide)) (lv_sub hl [3, 2, 1, 0] rfl) hP hD hS
theorem d_M_head_0 : decode b_M_head 0 = .ok (.aload_n 0, 1) := by decide +kernel
theorem d_M_head_1 : decode b_M_head 1 = .ok (.ldc 93, 2) := by decide +kernel
theorem d_M_head_3 : decode b_M_head 3 = .ok (.putfield 97, 3) := by decide +kernel
theorem d_M_head_6 : decode b_M_head 6 = .ok (.aload_n 0, 1) := by decide +kernel
theorem d_M_head_7 : decode b_M_head 7 = .ok (.iconst 1, 1) := by decide +kernel
theorem d_M_head_8 : decode b_M_head 8 = .ok (.putfield 100, 3) := by decide +kernel
theorem d_M_head_11 : decode b_M_head 11 = .ok (.aload_n 0, 1) := by decide +kernel
theorem d_M_head_12 : decode b_M_head 12 = .ok (.iload_n 1, 1) := by decide +kernel
theorem d_M_head_13 : decode b_M_head 13 = .ok (.iload_n 2, 1) := by decide +kernel
theorem d_M_head_14 : decode b_M_head 14 = .ok (.invokevirtual 103, 3) := by decide +kernel
theorem d_M_head_17 : decode b_M_head 17 = .ok (.istore_n 3, 1) := by decide +kernel
theorem d_M_head_18 : decode b_M_head 18 = .ok (.iload_n 3, 1) := by decide +kernel
theorem d_M_head_19 : decode b_M_head 19 = .ok (.iload_n 2, 1) := by decide +kernel
theorem d_M_head_20 : decode b_M_head 20 = .ok (.if_icmp .ne (5), 3) := by decide +kernel
theorem d_M_head_23 : decode b_M_head 23 = .ok (.iconst 1, 1) := by decide +kernel
theorem d_M_head_24 : decode b_M_head 24 = .ok (.ireturn, 1) := by decide +kernel
theorem d_M_head_25 : decode b_M_head 25 = .ok (.aload_n 0, 1) := by decide +kernel
theorem d_M_head_26 : decode b_M_head 26 = .ok (.iload_n 3, 1) := by decide +kernel
theorem d_M_head_27 : decode b_M_head 27 = .ok (.iload_n 2, 1) := by decide +kernel
theorem d_M_head_28 : decode b_M_head 28 = .ok (.invokevirtual 106, 3) := by decide +kernel
theorem d_M_head_31 : decode b_M_head 31 = .ok (.istore 4, 2) := by decide +kernel
theorem d_M_head_33 : decode b_M_head 33 = .ok (.aload_n 0, 1) := by decide +kernel
theorem d_M_head_34 : decode b_M_head 34 = .ok (.aload_n 0, 1) := by decide +kernel
theorem d_M_head_35 : decode b_M_head 35 = .ok (.iload_n 3, 1) := by decide +kernel
theorem d_M_head_36 : decode b_M_head 36 = .ok (.iload 4, 2) := by decide +kernel
theorem d_M_head_38 : decode b_M_head 38 = .ok (.invokevirtual 109, 3) := by decide +kernel
theorem d_M_head_41 : decode b_M_head 41 = .ok (.putfield 97, 3) := by decide +kernel
theorem d_M_head_44 : decode b_M_head 44 = .ok (.aload_n 0, 1) := by decide +kernel
theorem d_M_head_45 : decode b_M_head 45 = .ok (.iload 4, 2) := by decide +kernel
theorem d_M_head_47 : decode b_M_head 47 = .ok (.iload_n 2, 1) := by decide +kernel
theorem d_M_head_48 : decode b_M_head 48 = .ok (.invokevirtual 103, 3) := by decide +kernel
theorem d_M_head_51 : decode b_M_head 51 = .ok (.istore 5, 2) := by decide +kernel
theorem d_M_head_53 : decode b_M_head 53 = .ok (.aload_n 0, 1) := by decide +kernel
theorem d_M_head_54 : decode b_M_head 54 = .ok (.iload 5, 2) := by decide +kernel
theorem d_M_head_56 : decode b_M_head 56 = .ok (.iload_n 2, 1) := by decide +kernel
theorem d_M_head_57 : decode b_M_head 57 = .ok (.invokevirtual 106, 3) := by decide +kernel
theorem d_M_head_60 : decode b_M_head 60 = .ok (.istore 6, 2) := by decide +kernel
theorem d_M_head_62 : decode b_M_head 62 = .ok (.iload 5, 2) := by decide +kernel
theorem d_M_head_64 : decode b_M_head 64 = .ok (.iload_n 2, 1) := by decide +kernel
theorem d_M_head_65 : decode b_M_head 65 = .ok (.if_icmp .ge (7), 3) := by decide +kernel
theorem d_M_head_68 : decode b_M_head 68 = .ok (.iconst 1, 1) := by decide +kernel
theorem d_M_head_69 : decode b_M_head 69 = .ok (.goto (4), 3) := by decide +kernel
theorem d_M_head_72 : decode b_M_head 72 = .ok (.iconst 0, 1) := by decide +kernel
theorem d_M_head_73 : decode b_M_head 73 = .ok (.istore 7, 2) := by decide +kernel
theorem d_M_head_75 : decode b_M_head 75 = .ok (.iload 7, 2) := by decide +kernel
theorem d_M_head_77 : decode b_M_head 77 = .ok (.ifCond .eq (54), 3) := by decide +kernel
theorem d_M_head_80 : decode b_M_head 80 = .ok (.aload_n 0, 1) := by decide +kernel
theorem d_M_head_81 : decode b_M_head 81 = .ok (.iload 6, 2) := by decide +kernel
theorem d_M_head_83 : decode b_M_head 83 = .ok (.iload 5, 2) := by decide +kernel
theorem d_M_head_85 : decode b_M_head 85 = .ok (.isub, 1) := by decide +kernel
theorem d_M_head_86 : decode b_M_head 86 = .ok (.iconst 1, 1) := by decide +kernel
theorem d_M_head_87 : decode b_M_head 87 = .ok (.if_icmp .ne (40), 3) := by decide +kernel
theorem d_M_head_90 : decode b_M_head 90 = .ok (.aload_n 0, 1) := by decide +kernel
theorem d_M_head_91 : decode b_M_head 91 = .ok (.getfield 13, 3) := by decide +kernel
theorem d_M_head_94 : decode b_M_head 94 = .ok (.iload 5, 2) := by decide +kernel
theorem d_M_head_96 : decode b_M_head 96 = .ok (.iaload, 1) := by decide +kernel
theorem d_M_head_97 : decode b_M_head 97 = .ok (.bipush (49), 2) := by decide +kernel
theorem d_M_head_99 : decode b_M_head 99 = .ok (.if_icmp .lt (28), 3) := by decide +kernel
theorem d_M_head_102 : decode b_M_head 102 = .ok (.aload_n 0, 1) := by decide +kernel
theorem d_M_head_103 : decode b_M_head 103 = .ok (.getfield 13, 3) := by decide +kernel
theorem d_M_head_106 : decode b_M_head 106 = .ok (.iload 5, 2) := by decide +kernel
theorem d_M_head_108 : decode b_M_head 108 = .ok (.iaload, 1) := by decide +kernel
theorem d_M_head_109 : decode b_M_head 109 = .ok (.bipush (53), 2) := by decide +kernel
theorem d_M_head_111 : decode b_M_head 111 = .ok (.if_icmp .gt (16), 3) := by decide +kernel
theorem d_M_head_114 : decode b_M_head 114 = .ok (.aload_n 0, 1) := by decide +kernel
theorem d_M_head_115 : decode b_M_head 115 = .ok (.getfield 13, 3) := by decide +kernel
theorem d_M_head_118 : decode b_M_head 118 = .ok (.iload 5, 2) := by decide +kernel
theorem d_M_head_120 : decode b_M_head 120 = .ok (.iaload, 1) := by decide +kernel
theorem d_M_head_121 : decode b_M_head 121 = .ok (.bipush (48), 2) := by decide +kernel
theorem d_M_head_123 : decode b_M_head 123 = .ok (.isub, 1) := by decide +kernel
theorem d_M_head_124 : decode b_M_head 124 = .ok (.goto (4), 3) := by decide +kernel
theorem d_M_head_127 : decode b_M_head 127 = .ok (.iconst 0, 1) := by decide +kernel
theorem d_M_head_128 : decode b_M_head 128 = .ok (.putfield 100, 3) := by decide +kernel
theorem d_M_head_131 : decode b_M_head 131 = .ok (.aload_n 0, 1) := by decide +kernel
theorem d_M_head_132 : decode b_M_head 132 = .ok (.getfield 97, 3) := by decide +kernel
theorem d_M_head_135 : decode b_M_head 135 = .ok (.ldc 93, 2) := by decide +kernel
theorem d_M_head_137 : decode b_M_head 137 = .ok (.if_icmp .eq (25), 3) := by decide +kernel
theorem d_M_head_140 : decode b_M_head 140 = .ok (.aload_n 0, 1) := by decide +kernel
theorem d_M_head_141 : decode b_M_head 141 = .ok (.getfield 100, 3) := by decide +kernel
theorem d_M_head_144 : decode b_M_head 144 = .ok (.ifCond .le (18), 3) := by decide +kernel
theorem d_M_head_147 : decode b_M_head 147 = .ok (.aload_n 0, 1) := by decide +kernel
theorem d_M_head_148 : decode b_M_head 148 = .ok (.iload 6, 2) := by decide +kernel
theorem d_M_head_150 : decode b_M_head 150 = .ok (.iload_n 2, 1) := by decide +kernel
theorem d_M_head_151 : decode b_M_head 151 = .ok (.invokevirtual 103, 3) := by decide +kernel
theorem d_M_head_154 : decode b_M_head 154 = .ok (.iload_n 2, 1) := by decide +kernel
theorem d_M_head_155 : decode b_M_head 155 = .ok (.if_icmp .ne (7), 3) := by decide +kernel
theorem d_M_head_158 : decode b_M_head 158 = .ok (.iconst 1, 1) := by decide +kernel
theorem d_M_head_159 : decode b_M_head 159 = .ok (.goto (4), 3) := by decide +kernel
theorem d_M_head_162 : decode b_M_head 162 = .ok (.iconst 0, 1) := by decide +kernel
theorem d_M_head_163 : decode b_M_head 163 = .ok (.ireturn, 1) := by decide +kernel
def f_M_head (tx : Nat → Int32) (i : Nat) (j : Nat) : Bool := if (hq_skp tx 32 i (j - i)) = j then true else if j ≤ (hq_skp tx 32 (hq_fnd tx 32 (hq_skp tx 32 i (j - i)) (j - (hq_skp tx 32 i (j - i)))) (j - (hq_fnd tx 32 (hq_skp tx 32 i (j - i)) (j - (hq_skp tx 32 i (j - i)))))) then if (hq_nuM tx (hq_skp tx 32 i (j - i)) (hq_fnd tx 32 (hq_skp tx 32 i (j - i)) (j - (hq_skp tx 32 i (j - i))))) = 1000000 then false else if (hq_skp tx 32 (hq_fnd tx 32 (hq_skp tx 32 (hq_fnd tx 32 (hq_skp tx 32 i (j - i)) (j - (hq_skp tx 32 i (j - i)))) (j - (hq_fnd tx 32 (hq_skp tx 32 i (j - i)) (j - (hq_skp tx 32 i (j - i)))))) (j - (hq_skp tx 32 (hq_fnd tx 32 (hq_skp tx 32 i (j - i)) (j - (hq_skp tx 32 i (j - i)))) (j - (hq_fnd tx 32 (hq_skp tx 32 i (j - i)) (j - (hq_skp tx 32 i (j - i)))))))) (j - (hq_fnd tx 32 (hq_skp tx 32 (hq_fnd tx 32 (hq_skp tx 32 i (j - i)) (j - (hq_skp tx 32 i (j - i)))) (j - (hq_fnd tx 32 (hq_skp tx 32 i (j - i)) (j - (hq_skp tx 32 i (j - i)))))) (j - (hq_skp tx 32 (hq_fnd tx 32 (hq_skp tx 32 i (j - i)) (j - (hq_skp tx 32 i (j - i)))) (j - (hq_fnd tx 32 (hq_skp tx 32 i (j - i)) (j - (hq_skp tx 32 i (j - i)))))))))) = j then true else false else if ((hq_fnd tx 32 (hq_skp tx 32 (hq_fnd tx 32 (hq_skp tx 32 i (j - i)) (j - (hq_skp tx 32 i (j - i)))) (j - (hq_fnd tx 32 (hq_skp tx 32 i (j - i)) (j - (hq_skp tx 32 i (j - i)))))) (j - (hq_skp tx 32 (hq_fnd tx 32 (hq_skp tx 32 i (j - i)) (j - (hq_skp tx 32 i (j - i)))) (j - (hq_fnd tx 32 (hq_skp tx 32 i (j - i)) (j - (hq_skp tx 32 i (j - i)))))))) - (hq_skp tx 32 (hq_fnd tx 32 (hq_skp tx 32 i (j - i)) (j - (hq_skp tx 32 i (j - i)))) (j - (hq_fnd tx 32 (hq_skp tx 32 i (j - i)) (j - (hq_skp tx 32 i (j - i))))))) = 1 then if (tx (hq_skp tx 32 (hq_fnd tx 32 (hq_skp tx 32 i (j - i)) (j - (hq_skp tx 32 i (j - i)))) (j - (hq_fnd tx 32 (hq_skp tx 32 i (j - i)) (j - (hq_skp tx 32 i (j - i))))))) < 49 then false else if 53 < (tx (hq_skp tx 32 (hq_fnd tx 32 (hq_skp tx 32 i (j - i)) (j - (hq_skp tx 32 i (j - i)))) (j - (hq_fnd tx 32 (hq_skp tx 32 i (j - i)) (j - (hq_skp tx 32 i (j - i))))))) then false else if (hq_nuM tx (hq_skp tx 32 i (j - i)) (hq_fnd tx 32 (hq_skp tx 32 i (j - i)) (j - (hq_skp tx 32 i (j - i))))) = 1000000 then false else if ((tx (hq_skp tx 32 (hq_fnd tx 32 (hq_skp tx 32 i (j - i)) (j - (hq_skp tx 32 i (j - i)))) (j - (hq_fnd tx 32 (hq_skp tx 32 i (j - i)) (j - (hq_skp tx 32 i (j - i))))))) - 48) ≤ 0 then false else if (hq_skp tx 32 (hq_fnd tx 32 (hq_skp tx 32 (hq_fnd tx 32 (hq_skp tx 32 i (j - i)) (j - (hq_skp tx 32 i (j - i)))) (j - (hq_fnd tx 32 (hq_skp tx 32 i (j - i)) (j - (hq_skp tx 32 i (j - i)))))) (j - (hq_skp tx 32 (hq_fnd tx 32 (hq_skp tx 32 i (j - i)) (j - (hq_skp tx 32 i (j - i)))) (j - (hq_fnd tx 32 (hq_skp tx 32 i (j - i)) (j - (hq_skp tx 32 i (j - i)))))))) (j - (hq_fnd tx 32 (hq_skp tx 32 (hq_fnd tx 32 (hq_skp tx 32 i (j - i)) (j - (hq_skp tx 32 i (j - i)))) (j - (hq_fnd tx 32 (hq_skp tx 32 i (j - i)) (j - (hq_skp tx 32 i (j - i)))))) (j - (hq_skp tx 32 (hq_fnd tx 32 (hq_skp tx 32 i (j - i)) (j - (hq_skp tx 32 i (j - i)))) (j - (hq_fnd tx 32 (hq_skp tx 32 i (j - i)) (j - (hq_skp tx 32 i (j - i)))))))))) = j then true else false else false
def f_M_head_o1 (tx : Nat → Int32) (i : Nat) (j : Nat) : Int32 := if (hq_skp tx 32 i (j - i)) = j then 1000000 else hq_nuM tx (hq_skp tx 32 i (j - i)) (hq_fnd tx 32 (hq_skp tx 32 i (j - i)) (j - (hq_skp tx 32 i (j - i))))
def f_M_head_o2 (tx : Nat → Int32) (i : Nat) (j : Nat) : Int32 := if (hq_skp tx 32 i (j - i)) = j then 1 else if j ≤ (hq_skp tx 32 (hq_fnd tx 32 (hq_skp tx 32 i (j - i)) (j - (hq_skp tx 32 i (j - i)))) (j - (hq_fnd tx 32 (hq_skp tx 32 i (j - i)) (j - (hq_skp tx 32 i (j - i)))))) then 1 else if ((hq_fnd tx 32 (hq_skp tx 32 (hq_fnd tx 32 (hq_skp tx 32 i (j - i)) (j - (hq_skp tx 32 i (j - i)))) (j - (hq_fnd tx 32 (hq_skp tx 32 i (j - i)) (j - (hq_skp tx 32 i (j - i)))))) (j - (hq_skp tx 32 (hq_fnd tx 32 (hq_skp tx 32 i (j - i)) (j - (hq_skp tx 32 i (j - i)))) (j - (hq_fnd tx 32 (hq_skp tx 32 i (j - i)) (j - (hq_skp tx 32 i (j - i)))))))) - (hq_skp tx 32 (hq_fnd tx 32 (hq_skp tx 32 i (j - i)) (j - (hq_skp tx 32 i (j - i)))) (j - (hq_fnd tx 32 (hq_skp tx 32 i (j - i)) (j - (hq_skp tx 32 i (j - i))))))) = 1 then if (tx (hq_skp tx 32 (hq_fnd tx 32 (hq_skp tx 32 i (j - i)) (j - (hq_skp tx 32 i (j - i)))) (j - (hq_fnd tx 32 (hq_skp tx 32 i (j - i)) (j - (hq_skp tx 32 i (j - i))))))) < 49 then 0 else if 53 < (tx (hq_skp tx 32 (hq_fnd tx 32 (hq_skp tx 32 i (j - i)) (j - (hq_skp tx 32 i (j - i)))) (j - (hq_fnd tx 32 (hq_skp tx 32 i (j - i)) (j - (hq_skp tx 32 i (j - i))))))) then 0 else (tx (hq_skp tx 32 (hq_fnd tx 32 (hq_skp tx 32 i (j - i)) (j - (hq_skp tx 32 i (j - i)))) (j - (hq_fnd tx 32 (hq_skp tx 32 i (j - i)) (j - (hq_skp tx 32 i (j - i))))))) - 48 else 0
set_option maxHeartbeats 4000000 in
set_option maxRecDepth 100000 in
theorem c_M_head (l : Launch) (D : va_G) (G : Nat → ClassId) (A : Nat → Prop) (Z : va_W) (h : Nat) (n : Nat) (kd : Int32) (ru : Int32) (ya : Nat) (sz : Nat) (ta : Nat) (la : Nat) (rg : Nat) (so : Nat) (bg : Bool) (nc : Nat) (lfa : Nat) (rta : Nat) (lb : Int32) (wo : Int32) (ft : Nat) (fha : Nat) (fva : Nat) (fla : Nat) (sp : Nat) (tc : Nat) (tha : Nat) (tva : Nat) (wa : Nat) (sa : Nat) (ca : Nat) (va : Nat) (tt : Int64) (ld : Int32) (pt : Int64) (pw : Int64) (rc : Nat) (ra : Nat) (wn : Int32) (tx : Nat → Int32) (i : Nat) (j : Nat) (hj : j ≤ 2000) (hi : i ≤ j) : hq_FI l D G A y_M_head b_M_head 8 .boolean 3 [.ref h, .int (nI i), .int (nI j)] ([hq_o8 h (nI n) kd ru ya (nI sz) ta la (nI rg) (nI so) (hq_z bg) (nI nc) lfa rta lb wo (nI ft) fha fva fla (nI sp) (nI tc) tha tva wa sa ca va tt ld pt pw (nI rc) ra wn, hq_ai ta (G 0) 2000 tx] ++ Z) (hq_z (f_M_head tx i j)) ([hq_o8 h (nI n) kd ru ya (nI sz) ta la (nI rg) (nI so) (hq_z bg) (nI nc) lfa rta (f_M_head_o1 tx i j) (f_M_head_o2 tx i j) (nI ft) fha fva fla (nI sp) (nI tc) tha tva wa sa ca va tt ld pt pw (nI rc) ra wn, hq_ai ta (G 0) 2000 tx] ++ Z) := by
  refine hq_bI (by decide) (Nat.le_of_ble_eq_true rfl) (fun r u h => by rw [h]; exact hq_znar _) ?_
  intro p e s m args below meth c Q hx hb hml hts hown hA hK hN hret ls H locs hl hP hD hS
  have hown : s.vm.findClass "HashedLearnerModel" = some m.cls := hown
  have hl : lv_has ls 8 [(0, .ref h), (1, .int (nI i)), (2, .int (nI j))] := hl
  refine lv_aload_n hx hb d_M_head_0 rfl (lv_at hl 0 rfl) ?_
  refine lv_ldc (v := 1000000) hx hb hown (hts _ ki_M_93) d_M_head_1 ?_
  refine va_put (D := D) (ci := 8) (v := .int 1000000) (ty := .int) (C := R_M) (T := F_M) (N := 34) hx hb hts uw_M t_M t_M_ok n_M hown hK hP hD hS 0 rfl rfl 13 (by decide) (hts _ fl_M_97) (fun _ h9 => h9) rfl (by decide +kernel) (rfl) (rfl) (Nat.le_of_ble_eq_true rfl) d_M_head_3 (fun H locs hP hD hS => ?_)
  have hP : va_P D hq_cl ([hq_o8 h (nI n) kd ru ya (nI sz) ta la (nI rg) (nI so) (hq_z bg) (nI nc) lfa rta 1000000 wo (nI ft) fha fva fla (nI sp) (nI tc) tha tva wa sa ca va tt ld pt pw (nI rc) ra wn, hq_ai ta (G 0) 2000 tx] ++ Z) H := hP
  have hD : va_D A ([hq_o8 h (nI n) kd ru ya (nI sz) ta la (nI rg) (nI so) (hq_z bg) (nI nc) lfa rta 1000000 wo (nI ft) fha fva fla (nI sp) (nI tc) tha tva wa sa ca va tt ld pt pw (nI rc) ra wn, hq_ai ta (G 0) 2000 tx] ++ Z) := hD
  refine lv_aload_n hx hb d_M_head_6 rfl (lv_at hl 0 rfl) ?_
  refine lv_iconst (v := 1) hx hb d_M_head_7 (by decide) ?_
  refine va_put (D := D) (ci := 8) (v := .int 1) (ty := .int) (C := R_M) (T := F_M) (N := 34) hx hb hts uw_M t_M t_M_ok n_M hown hK hP hD hS 0 rfl rfl 14 (by decide) (hts _ fl_M_100) (fun _ h9 => h9) rfl (by decide +kernel) (rfl) (rfl) (Nat.le_of_ble_eq_true rfl) d_M_head_8 (fun H locs hP hD hS => ?_)
  have hP : va_P D hq_cl ([hq_o8 h (nI n) kd ru ya (nI sz) ta la (nI rg) (nI so) (hq_z bg) (nI nc) lfa rta 1000000 1 (nI ft) fha fva fla (nI sp) (nI tc) tha tva wa sa ca va tt ld pt pw (nI rc) ra wn, hq_ai ta (G 0) 2000 tx] ++ Z) H := hP
  have hD : va_D A ([hq_o8 h (nI n) kd ru ya (nI sz) ta la (nI rg) (nI so) (hq_z bg) (nI nc) lfa rta 1000000 1 (nI ft) fha fva fla (nI sp) (nI tc) tha tva wa sa ca va tt ld pt pw (nI rc) ra wn, hq_ai ta (G 0) 2000 tx] ++ Z) := hD
  refine lv_aload_n hx hb d_M_head_11 rfl (lv_at hl 0 rfl) ?_
  refine lv_iload_n hx hb d_M_head_12 rfl (lv_at hl 1 rfl) ?_
  refine lv_iload_n hx hb d_M_head_13 rfl (lv_at hl 2 rfl) ?_
  have hPc : va_P D hq_cl ([hq_o8 h (nI n) kd ru ya (nI sz) ta la (nI rg) (nI so) (hq_z bg) (nI nc) lfa rta 1000000 1 (nI ft) fha fva fla (nI sp) (nI tc) tha tva wa sa ca va tt ld pt pw (nI rc) ra wn, hq_ai ta (G 0) 2000 tx] ++ Z) H := hP
  have hDc : va_D A ([hq_o8 h (nI n) kd ru ya (nI sz) ta la (nI rg) (nI so) (hq_z bg) (nI nc) lfa rta 1000000 1 (nI ft) fha fva fla (nI sp) (nI tc) tha tva wa sa ca va tt ld pt pw (nI rc) ra wn, hq_ai ta (G 0) 2000 tx] ++ Z) := hD
  refine hq_iF (hq_rV (As := [.int (nI i), .int (nI j)]) (rest := []) hx hb hml hown hts (c_M_begin l D G A Z h ([.int (nI n), .int kd, .int ru, .ref ya, .int (nI sz), .ref ta, .ref la, .int (nI rg), .int (nI so), .int (hq_z bg), .int (nI nc), .ref lfa, .ref rta, .int 1000000, .int 1, .int (nI ft), .ref fha, .ref fva, .ref fla, .int (nI sp), .int (nI tc), .ref tha, .ref tva, .ref wa, .ref sa, .ref ca, .ref va, .long tt, .int ld, .long pt, .long pw, .int (nI rc), .ref ra, .int wn]) ta tx i j (by first | assumption | rfl) (by first | assumption | omega) (by first | assumption | omega)) yy_M_begin lk_M_103 hA hK hN hS hPc hDc 0 8 rfl rfl rfl hl.1 rfl (Nat.le_of_ble_eq_true rfl) d_M_head_14 ⟨by decide, by decide⟩ ⟨by decide, by decide⟩) hS (fun H locs hP hD hS => ?_)
  have hP : va_P D hq_cl ([hq_o8 h (nI n) kd ru ya (nI sz) ta la (nI rg) (nI so) (hq_z bg) (nI nc) lfa rta 1000000 1 (nI ft) fha fva fla (nI sp) (nI tc) tha tva wa sa ca va tt ld pt pw (nI rc) ra wn, hq_ai ta (G 0) 2000 tx] ++ Z) H := hP
  have hD : va_D A ([hq_o8 h (nI n) kd ru ya (nI sz) ta la (nI rg) (nI so) (hq_z bg) (nI nc) lfa rta 1000000 1 (nI ft) fha fva fla (nI sp) (nI tc) tha tva wa sa ca va tt ld pt pw (nI rc) ra wn, hq_ai ta (G 0) 2000 tx] ++ Z) := hD
  have hp := hq_skp_le tx 32 (j - i) i
  refine lv_istore_n (nL := 8) (lv' := [(3, .int (nI (hq_skp tx 32 i (j - i)))), (0, .ref h), (1, .int (nI i)), (2, .int (nI j))]) hx hb d_M_head_17 rfl hl (by decide) rfl (fun ls hl => ?_)
  refine lv_iload_n hx hb d_M_head_18 rfl (lv_at hl 0 rfl) ?_
  refine lv_iload_n hx hb d_M_head_19 rfl (lv_at hl 3 rfl) ?_
  refine lv_icmp_ne (tgt := 25) hx hb d_M_head_20 rfl (fun c20 => ?_) (fun c20 => ?_)
  · -- 20 taken
    have c20 : ¬ (hq_skp tx 32 i (j - i)) = j := fun h => c20 ((nI_eq (a := hq_skp tx 32 i (j - i)) (b := j) (by omega) (by omega)).mpr h)
    refine lv_aload_n hx hb d_M_head_25 rfl (lv_at hl 1 rfl) ?_
    refine lv_iload_n hx hb d_M_head_26 rfl (lv_at hl 0 rfl) ?_
    refine lv_iload_n hx hb d_M_head_27 rfl (lv_at hl 3 rfl) ?_
    have hPc : va_P D hq_cl ([hq_o8 h (nI n) kd ru ya (nI sz) ta la (nI rg) (nI so) (hq_z bg) (nI nc) lfa rta 1000000 1 (nI ft) fha fva fla (nI sp) (nI tc) tha tva wa sa ca va tt ld pt pw (nI rc) ra wn, hq_ai ta (G 0) 2000 tx] ++ Z) H := hP
    have hDc : va_D A ([hq_o8 h (nI n) kd ru ya (nI sz) ta la (nI rg) (nI so) (hq_z bg) (nI nc) lfa rta 1000000 1 (nI ft) fha fva fla (nI sp) (nI tc) tha tva wa sa ca va tt ld pt pw (nI rc) ra wn, hq_ai ta (G 0) 2000 tx] ++ Z) := hD
    refine hq_iF (hq_rV (As := [.int (nI (hq_skp tx 32 i (j - i))), .int (nI j)]) (rest := []) hx hb hml hown hts (c_M_end l D G A Z h ([.int (nI n), .int kd, .int ru, .ref ya, .int (nI sz), .ref ta, .ref la, .int (nI rg), .int (nI so), .int (hq_z bg), .int (nI nc), .ref lfa, .ref rta, .int 1000000, .int 1, .int (nI ft), .ref fha, .ref fva, .ref fla, .int (nI sp), .int (nI tc), .ref tha, .ref tva, .ref wa, .ref sa, .ref ca, .ref va, .long tt, .int ld, .long pt, .long pw, .int (nI rc), .ref ra, .int wn]) ta tx (hq_skp tx 32 i (j - i)) j (by first | assumption | rfl) (by first | assumption | omega) (by first | assumption | omega)) yy_M_end lk_M_106 hA hK hN hS hPc hDc 0 8 rfl rfl rfl hl.1 rfl (Nat.le_of_ble_eq_true rfl) d_M_head_28 ⟨by decide, by decide⟩ ⟨by decide, by decide⟩) hS (fun H locs hP hD hS => ?_)
    have hP : va_P D hq_cl ([hq_o8 h (nI n) kd ru ya (nI sz) ta la (nI rg) (nI so) (hq_z bg) (nI nc) lfa rta 1000000 1 (nI ft) fha fva fla (nI sp) (nI tc) tha tva wa sa ca va tt ld pt pw (nI rc) ra wn, hq_ai ta (G 0) 2000 tx] ++ Z) H := hP
    have hD : va_D A ([hq_o8 h (nI n) kd ru ya (nI sz) ta la (nI rg) (nI so) (hq_z bg) (nI nc) lfa rta 1000000 1 (nI ft) fha fva fla (nI sp) (nI tc) tha tva wa sa ca va tt ld pt pw (nI rc) ra wn, hq_ai ta (G 0) 2000 tx] ++ Z) := hD
    have hp1 := hq_fnd_le tx 32 (j - (hq_skp tx 32 i (j - i))) (hq_skp tx 32 i (j - i))
    refine lv_istore (nL := 8) (lv' := [(4, .int (nI (hq_fnd tx 32 (hq_skp tx 32 i (j - i)) (j - (hq_skp tx 32 i (j - i)))))), (3, .int (nI (hq_skp tx 32 i (j - i)))), (0, .ref h), (1, .int (nI i)), (2, .int (nI j))]) hx hb d_M_head_31 hl (by decide) rfl (fun ls hl => ?_)
    refine lv_aload_n hx hb d_M_head_33 rfl (lv_at hl 2 rfl) ?_
    refine lv_aload_n hx hb d_M_head_34 rfl (lv_at hl 2 rfl) ?_
    refine lv_iload_n hx hb d_M_head_35 rfl (lv_at hl 1 rfl) ?_
    refine lv_iload hx hb d_M_head_36 (lv_at hl 0 rfl) ?_
    have hPc : va_P D hq_cl ([hq_o8 h (nI n) kd ru ya (nI sz) ta la (nI rg) (nI so) (hq_z bg) (nI nc) lfa rta 1000000 1 (nI ft) fha fva fla (nI sp) (nI tc) tha tva wa sa ca va tt ld pt pw (nI rc) ra wn, hq_ai ta (G 0) 2000 tx] ++ Z) H := hP
    have hDc : va_D A ([hq_o8 h (nI n) kd ru ya (nI sz) ta la (nI rg) (nI so) (hq_z bg) (nI nc) lfa rta 1000000 1 (nI ft) fha fva fla (nI sp) (nI tc) tha tva wa sa ca va tt ld pt pw (nI rc) ra wn, hq_ai ta (G 0) 2000 tx] ++ Z) := hD
    refine hq_iF (hq_rV (As := [.int (nI (hq_skp tx 32 i (j - i))), .int (nI (hq_fnd tx 32 (hq_skp tx 32 i (j - i)) (j - (hq_skp tx 32 i (j - i)))))]) (rest := [.ref h]) hx hb hml hown hts (c_M_number l D G A Z h ([.int (nI n), .int kd, .int ru, .ref ya, .int (nI sz), .ref ta, .ref la, .int (nI rg), .int (nI so), .int (hq_z bg), .int (nI nc), .ref lfa, .ref rta, .int 1000000, .int 1, .int (nI ft), .ref fha, .ref fva, .ref fla, .int (nI sp), .int (nI tc), .ref tha, .ref tva, .ref wa, .ref sa, .ref ca, .ref va, .long tt, .int ld, .long pt, .long pw, .int (nI rc), .ref ra, .int wn]) ta tx (hq_skp tx 32 i (j - i)) (hq_fnd tx 32 (hq_skp tx 32 i (j - i)) (j - (hq_skp tx 32 i (j - i)))) (by first | assumption | rfl) (by first | assumption | omega) (by first | assumption | omega)) yy_M_number lk_M_109 hA hK hN hS hPc hDc 0 8 rfl rfl rfl hl.1 rfl (Nat.le_of_ble_eq_true rfl) d_M_head_38 ⟨by decide, by decide⟩ ⟨by decide, by decide⟩) hS (fun H locs hP hD hS => ?_)
    have hP : va_P D hq_cl ([hq_o8 h (nI n) kd ru ya (nI sz) ta la (nI rg) (nI so) (hq_z bg) (nI nc) lfa rta 1000000 1 (nI ft) fha fva fla (nI sp) (nI tc) tha tva wa sa ca va tt ld pt pw (nI rc) ra wn, hq_ai ta (G 0) 2000 tx] ++ Z) H := hP
    have hD : va_D A ([hq_o8 h (nI n) kd ru ya (nI sz) ta la (nI rg) (nI so) (hq_z bg) (nI nc) lfa rta 1000000 1 (nI ft) fha fva fla (nI sp) (nI tc) tha tva wa sa ca va tt ld pt pw (nI rc) ra wn, hq_ai ta (G 0) 2000 tx] ++ Z) := hD
    refine va_put (D := D) (ci := 8) (v := .int (hq_nuM tx (hq_skp tx 32 i (j - i)) (hq_fnd tx 32 (hq_skp tx 32 i (j - i)) (j - (hq_skp tx 32 i (j - i)))))) (ty := .int) (C := R_M) (T := F_M) (N := 34) hx hb hts uw_M t_M t_M_ok n_M hown hK hP hD hS 0 rfl rfl 13 (by decide) (hts _ fl_M_97) (fun _ h9 => h9) rfl (by decide +kernel) (rfl) (rfl) (Nat.le_of_ble_eq_true rfl) d_M_head_41 (fun H locs hP hD hS => ?_)
    have hP : va_P D hq_cl ([hq_o8 h (nI n) kd ru ya (nI sz) ta la (nI rg) (nI so) (hq_z bg) (nI nc) lfa rta (hq_nuM tx (hq_skp tx 32 i (j - i)) (hq_fnd tx 32 (hq_skp tx 32 i (j - i)) (j - (hq_skp tx 32 i (j - i))))) 1 (nI ft) fha fva fla (nI sp) (nI tc) tha tva wa sa ca va tt ld pt pw (nI rc) ra wn, hq_ai ta (G 0) 2000 tx] ++ Z) H := hP
    have hD : va_D A ([hq_o8 h (nI n) kd ru ya (nI sz) ta la (nI rg) (nI so) (hq_z bg) (nI nc) lfa rta (hq_nuM tx (hq_skp tx 32 i (j - i)) (hq_fnd tx 32 (hq_skp tx 32 i (j - i)) (j - (hq_skp tx 32 i (j - i))))) 1 (nI ft) fha fva fla (nI sp) (nI tc) tha tva wa sa ca va tt ld pt pw (nI rc) ra wn, hq_ai ta (G 0) 2000 tx] ++ Z) := hD
    refine lv_aload_n hx hb d_M_head_44 rfl (lv_at hl 2 rfl) ?_
    refine lv_iload hx hb d_M_head_45 (lv_at hl 0 rfl) ?_
    refine lv_iload_n hx hb d_M_head_47 rfl (lv_at hl 4 rfl) ?_
    have hPc : va_P D hq_cl ([hq_o8 h (nI n) kd ru ya (nI sz) ta la (nI rg) (nI so) (hq_z bg) (nI nc) lfa rta (hq_nuM tx (hq_skp tx 32 i (j - i)) (hq_fnd tx 32 (hq_skp tx 32 i (j - i)) (j - (hq_skp tx 32 i (j - i))))) 1 (nI ft) fha fva fla (nI sp) (nI tc) tha tva wa sa ca va tt ld pt pw (nI rc) ra wn, hq_ai ta (G 0) 2000 tx] ++ Z) H := hP
    have hDc : va_D A ([hq_o8 h (nI n) kd ru ya (nI sz) ta la (nI rg) (nI so) (hq_z bg) (nI nc) lfa rta (hq_nuM tx (hq_skp tx 32 i (j - i)) (hq_fnd tx 32 (hq_skp tx 32 i (j - i)) (j - (hq_skp tx 32 i (j - i))))) 1 (nI ft) fha fva fla (nI sp) (nI tc) tha tva wa sa ca va tt ld pt pw (nI rc) ra wn, hq_ai ta (G 0) 2000 tx] ++ Z) := hD
    refine hq_iF (hq_rV (As := [.int (nI (hq_fnd tx 32 (hq_skp tx 32 i (j - i)) (j - (hq_skp tx 32 i (j - i))))), .int (nI j)]) (rest := []) hx hb hml hown hts (c_M_begin l D G A Z h ([.int (nI n), .int kd, .int ru, .ref ya, .int (nI sz), .ref ta, .ref la, .int (nI rg), .int (nI so), .int (hq_z bg), .int (nI nc), .ref lfa, .ref rta, .int (hq_nuM tx (hq_skp tx 32 i (j - i)) (hq_fnd tx 32 (hq_skp tx 32 i (j - i)) (j - (hq_skp tx 32 i (j - i))))), .int 1, .int (nI ft), .ref fha, .ref fva, .ref fla, .int (nI sp), .int (nI tc), .ref tha, .ref tva, .ref wa, .ref sa, .ref ca, .ref va, .long tt, .int ld, .long pt, .long pw, .int (nI rc), .ref ra, .int wn]) ta tx (hq_fnd tx 32 (hq_skp tx 32 i (j - i)) (j - (hq_skp tx 32 i (j - i)))) j (by first | assumption | rfl) (by first | assumption | omega) (by first | assumption | omega)) yy_M_begin lk_M_103 hA hK hN hS hPc hDc 0 8 rfl rfl rfl hl.1 rfl (Nat.le_of_ble_eq_true rfl) d_M_head_48 ⟨by decide, by decide⟩ ⟨by decide, by decide⟩) hS (fun H locs hP hD hS => ?_)
    have hP : va_P D hq_cl ([hq_o8 h (nI n) kd ru ya (nI sz) ta la (nI rg) (nI so) (hq_z bg) (nI nc) lfa rta (hq_nuM tx (hq_skp tx 32 i (j - i)) (hq_fnd tx 32 (hq_skp tx 32 i (j - i)) (j - (hq_skp tx 32 i (j - i))))) 1 (nI ft) fha fva fla (nI sp) (nI tc) tha tva wa sa ca va tt ld pt pw (nI rc) ra wn, hq_ai ta (G 0) 2000 tx] ++ Z) H := hP
    have hD : va_D A ([hq_o8 h (nI n) kd ru ya (nI sz) ta la (nI rg) (nI so) (hq_z bg) (nI nc) lfa rta (hq_nuM tx (hq_skp tx 32 i (j - i)) (hq_fnd tx 32 (hq_skp tx 32 i (j - i)) (j - (hq_skp tx 32 i (j - i))))) 1 (nI ft) fha fva fla (nI sp) (nI tc) tha tva wa sa ca va tt ld pt pw (nI rc) ra wn, hq_ai ta (G 0) 2000 tx] ++ Z) := hD
    have hp2 := hq_skp_le tx 32 (j - (hq_fnd tx 32 (hq_skp tx 32 i (j - i)) (j - (hq_skp tx 32 i (j - i))))) (hq_fnd tx 32 (hq_skp tx 32 i (j - i)) (j - (hq_skp tx 32 i (j - i))))
    refine lv_istore (nL := 8) (lv' := [(5, .int (nI (hq_skp tx 32 (hq_fnd tx 32 (hq_skp tx 32 i (j - i)) (j - (hq_skp tx 32 i (j - i)))) (j - (hq_fnd tx 32 (hq_skp tx 32 i (j - i)) (j - (hq_skp tx 32 i (j - i)))))))), (4, .int (nI (hq_fnd tx 32 (hq_skp tx 32 i (j - i)) (j - (hq_skp tx 32 i (j - i)))))), (3, .int (nI (hq_skp tx 32 i (j - i)))), (0, .ref h), (1, .int (nI i)), (2, .int (nI j))]) hx hb d_M_head_51 hl (by decide) rfl (fun ls hl => ?_)
    refine lv_aload_n hx hb d_M_head_53 rfl (lv_at hl 3 rfl) ?_
    refine lv_iload hx hb d_M_head_54 (lv_at hl 0 rfl) ?_
    refine lv_iload_n hx hb d_M_head_56 rfl (lv_at hl 5 rfl) ?_
    have hPc : va_P D hq_cl ([hq_o8 h (nI n) kd ru ya (nI sz) ta la (nI rg) (nI so) (hq_z bg) (nI nc) lfa rta (hq_nuM tx (hq_skp tx 32 i (j - i)) (hq_fnd tx 32 (hq_skp tx 32 i (j - i)) (j - (hq_skp tx 32 i (j - i))))) 1 (nI ft) fha fva fla (nI sp) (nI tc) tha tva wa sa ca va tt ld pt pw (nI rc) ra wn, hq_ai ta (G 0) 2000 tx] ++ Z) H := hP
    have hDc : va_D A ([hq_o8 h (nI n) kd ru ya (nI sz) ta la (nI rg) (nI so) (hq_z bg) (nI nc) lfa rta (hq_nuM tx (hq_skp tx 32 i (j - i)) (hq_fnd tx 32 (hq_skp tx 32 i (j - i)) (j - (hq_skp tx 32 i (j - i))))) 1 (nI ft) fha fva fla (nI sp) (nI tc) tha tva wa sa ca va tt ld pt pw (nI rc) ra wn, hq_ai ta (G 0) 2000 tx] ++ Z) := hD
    refine hq_iF (hq_rV (As := [.int (nI (hq_skp tx 32 (hq_fnd tx 32 (hq_skp tx 32 i (j - i)) (j - (hq_skp tx 32 i (j - i)))) (j - (hq_fnd tx 32 (hq_skp tx 32 i (j - i)) (j - (hq_skp tx 32 i (j - i))))))), .int (nI j)]) (rest := []) hx hb hml hown hts (c_M_end l D G A Z h ([.int (nI n), .int kd, .int ru, .ref ya, .int (nI sz), .ref ta, .ref la, .int (nI rg), .int (nI so), .int (hq_z bg), .int (nI nc), .ref lfa, .ref rta, .int (hq_nuM tx (hq_skp tx 32 i (j - i)) (hq_fnd tx 32 (hq_skp tx 32 i (j - i)) (j - (hq_skp tx 32 i (j - i))))), .int 1, .int (nI ft), .ref fha, .ref fva, .ref fla, .int (nI sp), .int (nI tc), .ref tha, .ref tva, .ref wa, .ref sa, .ref ca, .ref va, .long tt, .int ld, .long pt, .long pw, .int (nI rc), .ref ra, .int wn]) ta tx (hq_skp tx 32 (hq_fnd tx 32 (hq_skp tx 32 i (j - i)) (j - (hq_skp tx 32 i (j - i)))) (j - (hq_fnd tx 32 (hq_skp tx 32 i (j - i)) (j - (hq_skp tx 32 i (j - i)))))) j (by first | assumption | rfl) (by first | assumption | omega) (by first | assumption | omega)) yy_M_end lk_M_106 hA hK hN hS hPc hDc 0 8 rfl rfl rfl hl.1 rfl (Nat.le_of_ble_eq_true rfl) d_M_head_57 ⟨by decide, by decide⟩ ⟨by decide, by decide⟩) hS (fun H locs hP hD hS => ?_)
    have hP : va_P D hq_cl ([hq_o8 h (nI n) kd ru ya (nI sz) ta la (nI rg) (nI so) (hq_z bg) (nI nc) lfa rta (hq_nuM tx (hq_skp tx 32 i (j - i)) (hq_fnd tx 32 (hq_skp tx 32 i (j - i)) (j - (hq_skp tx 32 i (j - i))))) 1 (nI ft) fha fva fla (nI sp) (nI tc) tha tva wa sa ca va tt ld pt pw (nI rc) ra wn, hq_ai ta (G 0) 2000 tx] ++ Z) H := hP
    have hD : va_D A ([hq_o8 h (nI n) kd ru ya (nI sz) ta la (nI rg) (nI so) (hq_z bg) (nI nc) lfa rta (hq_nuM tx (hq_skp tx 32 i (j - i)) (hq_fnd tx 32 (hq_skp tx 32 i (j - i)) (j - (hq_skp tx 32 i (j - i))))) 1 (nI ft) fha fva fla (nI sp) (nI tc) tha tva wa sa ca va tt ld pt pw (nI rc) ra wn, hq_ai ta (G 0) 2000 tx] ++ Z) := hD
    have hp3 := hq_fnd_le tx 32 (j - (hq_skp tx 32 (hq_fnd tx 32 (hq_skp tx 32 i (j - i)) (j - (hq_skp tx 32 i (j - i)))) (j - (hq_fnd tx 32 (hq_skp tx 32 i (j - i)) (j - (hq_skp tx 32 i (j - i))))))) (hq_skp tx 32 (hq_fnd tx 32 (hq_skp tx 32 i (j - i)) (j - (hq_skp tx 32 i (j - i)))) (j - (hq_fnd tx 32 (hq_skp tx 32 i (j - i)) (j - (hq_skp tx 32 i (j - i))))))
    refine lv_istore (nL := 8) (lv' := [(6, .int (nI (hq_fnd tx 32 (hq_skp tx 32 (hq_fnd tx 32 (hq_skp tx 32 i (j - i)) (j - (hq_skp tx 32 i (j - i)))) (j - (hq_fnd tx 32 (hq_skp tx 32 i (j - i)) (j - (hq_skp tx 32 i (j - i)))))) (j - (hq_skp tx 32 (hq_fnd tx 32 (hq_skp tx 32 i (j - i)) (j - (hq_skp tx 32 i (j - i)))) (j - (hq_fnd tx 32 (hq_skp tx 32 i (j - i)) (j - (hq_skp tx 32 i (j - i)))))))))), (5, .int (nI (hq_skp tx 32 (hq_fnd tx 32 (hq_skp tx 32 i (j - i)) (j - (hq_skp tx 32 i (j - i)))) (j - (hq_fnd tx 32 (hq_skp tx 32 i (j - i)) (j - (hq_skp tx 32 i (j - i)))))))), (4, .int (nI (hq_fnd tx 32 (hq_skp tx 32 i (j - i)) (j - (hq_skp tx 32 i (j - i)))))), (3, .int (nI (hq_skp tx 32 i (j - i)))), (0, .ref h), (1, .int (nI i)), (2, .int (nI j))]) hx hb d_M_head_60 hl (by decide) rfl (fun ls hl => ?_)
    refine lv_iload hx hb d_M_head_62 (lv_at hl 1 rfl) ?_
    refine lv_iload_n hx hb d_M_head_64 rfl (lv_at hl 6 rfl) ?_
    refine lv_icmp_ge (tgt := 72) hx hb d_M_head_65 rfl (fun c65 => ?_) (fun c65 => ?_)
    · -- 65 taken
      have c65 : j ≤ (hq_skp tx 32 (hq_fnd tx 32 (hq_skp tx 32 i (j - i)) (j - (hq_skp tx 32 i (j - i)))) (j - (hq_fnd tx 32 (hq_skp tx 32 i (j - i)) (j - (hq_skp tx 32 i (j - i)))))) := (nI_leI (a := j) (b := hq_skp tx 32 (hq_fnd tx 32 (hq_skp tx 32 i (j - i)) (j - (hq_skp tx 32 i (j - i)))) (j - (hq_fnd tx 32 (hq_skp tx 32 i (j - i)) (j - (hq_skp tx 32 i (j - i)))))) (by omega) (by omega)).mp c65
      refine lv_iconst (v := 0) hx hb d_M_head_72 (by decide) ?_
      refine lv_istore (nL := 8) (lv' := [(7, .int 0), (6, .int (nI (hq_fnd tx 32 (hq_skp tx 32 (hq_fnd tx 32 (hq_skp tx 32 i (j - i)) (j - (hq_skp tx 32 i (j - i)))) (j - (hq_fnd tx 32 (hq_skp tx 32 i (j - i)) (j - (hq_skp tx 32 i (j - i)))))) (j - (hq_skp tx 32 (hq_fnd tx 32 (hq_skp tx 32 i (j - i)) (j - (hq_skp tx 32 i (j - i)))) (j - (hq_fnd tx 32 (hq_skp tx 32 i (j - i)) (j - (hq_skp tx 32 i (j - i)))))))))), (5, .int (nI (hq_skp tx 32 (hq_fnd tx 32 (hq_skp tx 32 i (j - i)) (j - (hq_skp tx 32 i (j - i)))) (j - (hq_fnd tx 32 (hq_skp tx 32 i (j - i)) (j - (hq_skp tx 32 i (j - i)))))))), (4, .int (nI (hq_fnd tx 32 (hq_skp tx 32 i (j - i)) (j - (hq_skp tx 32 i (j - i)))))), (3, .int (nI (hq_skp tx 32 i (j - i)))), (0, .ref h), (1, .int (nI i)), (2, .int (nI j))]) hx hb d_M_head_73 hl (by decide) rfl (fun ls hl => ?_)
      refine lv_iload hx hb d_M_head_75 (lv_at hl 0 rfl) ?_
      refine lv_if_eq (tgt := 131) hx hb d_M_head_77 rfl (fun c77 => ?_) (fun c77 => ?_)
      · skip
        refine lv_aload_n hx hb d_M_head_131 rfl (lv_at hl 5 rfl) ?_
        refine va_get (D := D) (ci := 8) (v := .int (hq_nuM tx (hq_skp tx 32 i (j - i)) (hq_fnd tx 32 (hq_skp tx 32 i (j - i)) (j - (hq_skp tx 32 i (j - i)))))) (C := R_M) (T := F_M) (N := 34) hx hb hts uw_M hown hK hP 0 rfl rfl 13 (by decide) (hts _ fl_M_97) (fun _ h9 => h9) rfl d_M_head_132 ?_
        refine lv_ldc (v := 1000000) hx hb hown (hts _ ki_M_93) d_M_head_135 ?_
        refine lv_icmp_eq (tgt := 162) hx hb d_M_head_137 rfl (fun c137 => ?_) (fun c137 => ?_)
        · -- 137 taken
          have c137 : (hq_nuM tx (hq_skp tx 32 i (j - i)) (hq_fnd tx 32 (hq_skp tx 32 i (j - i)) (j - (hq_skp tx 32 i (j - i))))) = 1000000 := c137
          refine lv_iconst (v := 0) hx hb d_M_head_162 (by decide) ?_
          have hP : va_P D hq_cl ([hq_o8 h (nI n) kd ru ya (nI sz) ta la (nI rg) (nI so) (hq_z bg) (nI nc) lfa rta (f_M_head_o1 tx i j) (f_M_head_o2 tx i j) (nI ft) fha fva fla (nI sp) (nI tc) tha tva wa sa ca va tt ld pt pw (nI rc) ra wn, hq_ai ta (G 0) 2000 tx] ++ Z) H := by rw [show f_M_head_o1 tx i j = hq_nuM tx (hq_skp tx 32 i (j - i)) (hq_fnd tx 32 (hq_skp tx 32 i (j - i)) (j - (hq_skp tx 32 i (j - i)))) by (rw [f_M_head_o1, if_neg c20] <;> rfl), show f_M_head_o2 tx i j = 1 by (rw [f_M_head_o2, if_neg c20, if_pos c65] <;> rfl)]; exact hP
          have hD : va_D A ([hq_o8 h (nI n) kd ru ya (nI sz) ta la (nI rg) (nI so) (hq_z bg) (nI nc) lfa rta (f_M_head_o1 tx i j) (f_M_head_o2 tx i j) (nI ft) fha fva fla (nI sp) (nI tc) tha tva wa sa ca va tt ld pt pw (nI rc) ra wn, hq_ai ta (G 0) 2000 tx] ++ Z) := by rw [show f_M_head_o1 tx i j = hq_nuM tx (hq_skp tx 32 i (j - i)) (hq_fnd tx 32 (hq_skp tx 32 i (j - i)) (j - (hq_skp tx 32 i (j - i)))) by (rw [f_M_head_o1, if_neg c20] <;> rfl), show f_M_head_o2 tx i j = 1 by (rw [f_M_head_o2, if_neg c20, if_pos c65] <;> rfl)]; exact hD
          exact hret 0 () H locs 163 ls d_M_head_163 (by rw [f_M_head, if_neg c20, if_pos c65, if_pos c137] <;> rfl) hP hD hS
        · -- 137 not taken
          have c137 : ¬ (hq_nuM tx (hq_skp tx 32 i (j - i)) (hq_fnd tx 32 (hq_skp tx 32 i (j - i)) (j - (hq_skp tx 32 i (j - i))))) = 1000000 := c137
          refine lv_aload_n hx hb d_M_head_140 rfl (lv_at hl 5 rfl) ?_
          refine va_get (D := D) (ci := 8) (v := .int 1) (C := R_M) (T := F_M) (N := 34) hx hb hts uw_M hown hK hP 0 rfl rfl 14 (by decide) (hts _ fl_M_100) (fun _ h9 => h9) rfl d_M_head_141 ?_
          refine lv_if_le (tgt := 162) hx hb d_M_head_144 rfl (fun c144 => ?_) (fun c144 => ?_)
          · exact absurd c144 (by decide)
          · skip
            refine lv_aload_n hx hb d_M_head_147 rfl (lv_at hl 5 rfl) ?_
            refine lv_iload hx hb d_M_head_148 (lv_at hl 1 rfl) ?_
            refine lv_iload_n hx hb d_M_head_150 rfl (lv_at hl 7 rfl) ?_
            have hPc : va_P D hq_cl ([hq_o8 h (nI n) kd ru ya (nI sz) ta la (nI rg) (nI so) (hq_z bg) (nI nc) lfa rta (hq_nuM tx (hq_skp tx 32 i (j - i)) (hq_fnd tx 32 (hq_skp tx 32 i (j - i)) (j - (hq_skp tx 32 i (j - i))))) 1 (nI ft) fha fva fla (nI sp) (nI tc) tha tva wa sa ca va tt ld pt pw (nI rc) ra wn, hq_ai ta (G 0) 2000 tx] ++ Z) H := hP
            have hDc : va_D A ([hq_o8 h (nI n) kd ru ya (nI sz) ta la (nI rg) (nI so) (hq_z bg) (nI nc) lfa rta (hq_nuM tx (hq_skp tx 32 i (j - i)) (hq_fnd tx 32 (hq_skp tx 32 i (j - i)) (j - (hq_skp tx 32 i (j - i))))) 1 (nI ft) fha fva fla (nI sp) (nI tc) tha tva wa sa ca va tt ld pt pw (nI rc) ra wn, hq_ai ta (G 0) 2000 tx] ++ Z) := hD
            refine hq_iF (hq_rV (As := [.int (nI (hq_fnd tx 32 (hq_skp tx 32 (hq_fnd tx 32 (hq_skp tx 32 i (j - i)) (j - (hq_skp tx 32 i (j - i)))) (j - (hq_fnd tx 32 (hq_skp tx 32 i (j - i)) (j - (hq_skp tx 32 i (j - i)))))) (j - (hq_skp tx 32 (hq_fnd tx 32 (hq_skp tx 32 i (j - i)) (j - (hq_skp tx 32 i (j - i)))) (j - (hq_fnd tx 32 (hq_skp tx 32 i (j - i)) (j - (hq_skp tx 32 i (j - i))))))))), .int (nI j)]) (rest := []) hx hb hml hown hts (c_M_begin l D G A Z h ([.int (nI n), .int kd, .int ru, .ref ya, .int (nI sz), .ref ta, .ref la, .int (nI rg), .int (nI so), .int (hq_z bg), .int (nI nc), .ref lfa, .ref rta, .int (hq_nuM tx (hq_skp tx 32 i (j - i)) (hq_fnd tx 32 (hq_skp tx 32 i (j - i)) (j - (hq_skp tx 32 i (j - i))))), .int 1, .int (nI ft), .ref fha, .ref fva, .ref fla, .int (nI sp), .int (nI tc), .ref tha, .ref tva, .ref wa, .ref sa, .ref ca, .ref va, .long tt, .int ld, .long pt, .long pw, .int (nI rc), .ref ra, .int wn]) ta tx (hq_fnd tx 32 (hq_skp tx 32 (hq_fnd tx 32 (hq_skp tx 32 i (j - i)) (j - (hq_skp tx 32 i (j - i)))) (j - (hq_fnd tx 32 (hq_skp tx 32 i (j - i)) (j - (hq_skp tx 32 i (j - i)))))) (j - (hq_skp tx 32 (hq_fnd tx 32 (hq_skp tx 32 i (j - i)) (j - (hq_skp tx 32 i (j - i)))) (j - (hq_fnd tx 32 (hq_skp tx 32 i (j - i)) (j - (hq_skp tx 32 i (j - i)))))))) j (by first | assumption | rfl) (by first | assumption | omega) (by first | assumption | omega)) yy_M_begin lk_M_103 hA hK hN hS hPc hDc 0 8 rfl rfl rfl hl.1 rfl (Nat.le_of_ble_eq_true rfl) d_M_head_151 ⟨by decide, by decide⟩ ⟨by decide, by decide⟩) hS (fun H locs hP hD hS => ?_)
            have hP : va_P D hq_cl ([hq_o8 h (nI n) kd ru ya (nI sz) ta la (nI rg) (nI so) (hq_z bg) (nI nc) lfa rta (hq_nuM tx (hq_skp tx 32 i (j - i)) (hq_fnd tx 32 (hq_skp tx 32 i (j - i)) (j - (hq_skp tx 32 i (j - i))))) 1 (nI ft) fha fva fla (nI sp) (nI tc) tha tva wa sa ca va tt ld pt pw (nI rc) ra wn, hq_ai ta (G 0) 2000 tx] ++ Z) H := hP
            have hD : va_D A ([hq_o8 h (nI n) kd ru ya (nI sz) ta la (nI rg) (nI so) (hq_z bg) (nI nc) lfa rta (hq_nuM tx (hq_skp tx 32 i (j - i)) (hq_fnd tx 32 (hq_skp tx 32 i (j - i)) (j - (hq_skp tx 32 i (j - i))))) 1 (nI ft) fha fva fla (nI sp) (nI tc) tha tva wa sa ca va tt ld pt pw (nI rc) ra wn, hq_ai ta (G 0) 2000 tx] ++ Z) := hD
            have hp4 := hq_skp_le tx 32 (j - (hq_fnd tx 32 (hq_skp tx 32 (hq_fnd tx 32 (hq_skp tx 32 i (j - i)) (j - (hq_skp tx 32 i (j - i)))) (j - (hq_fnd tx 32 (hq_skp tx 32 i (j - i)) (j - (hq_skp tx 32 i (j - i)))))) (j - (hq_skp tx 32 (hq_fnd tx 32 (hq_skp tx 32 i (j - i)) (j - (hq_skp tx 32 i (j - i)))) (j - (hq_fnd tx 32 (hq_skp tx 32 i (j - i)) (j - (hq_skp tx 32 i (j - i))))))))) (hq_fnd tx 32 (hq_skp tx 32 (hq_fnd tx 32 (hq_skp tx 32 i (j - i)) (j - (hq_skp tx 32 i (j - i)))) (j - (hq_fnd tx 32 (hq_skp tx 32 i (j - i)) (j - (hq_skp tx 32 i (j - i)))))) (j - (hq_skp tx 32 (hq_fnd tx 32 (hq_skp tx 32 i (j - i)) (j - (hq_skp tx 32 i (j - i)))) (j - (hq_fnd tx 32 (hq_skp tx 32 i (j - i)) (j - (hq_skp tx 32 i (j - i))))))))
            refine lv_iload_n hx hb d_M_head_154 rfl (lv_at hl 7 rfl) ?_
            refine lv_icmp_ne (tgt := 162) hx hb d_M_head_155 rfl (fun c155 => ?_) (fun c155 => ?_)
            · -- 155 taken
              have c155 : ¬ (hq_skp tx 32 (hq_fnd tx 32 (hq_skp tx 32 (hq_fnd tx 32 (hq_skp tx 32 i (j - i)) (j - (hq_skp tx 32 i (j - i)))) (j - (hq_fnd tx 32 (hq_skp tx 32 i (j - i)) (j - (hq_skp tx 32 i (j - i)))))) (j - (hq_skp tx 32 (hq_fnd tx 32 (hq_skp tx 32 i (j - i)) (j - (hq_skp tx 32 i (j - i)))) (j - (hq_fnd tx 32 (hq_skp tx 32 i (j - i)) (j - (hq_skp tx 32 i (j - i)))))))) (j - (hq_fnd tx 32 (hq_skp tx 32 (hq_fnd tx 32 (hq_skp tx 32 i (j - i)) (j - (hq_skp tx 32 i (j - i)))) (j - (hq_fnd tx 32 (hq_skp tx 32 i (j - i)) (j - (hq_skp tx 32 i (j - i)))))) (j - (hq_skp tx 32 (hq_fnd tx 32 (hq_skp tx 32 i (j - i)) (j - (hq_skp tx 32 i (j - i)))) (j - (hq_fnd tx 32 (hq_skp tx 32 i (j - i)) (j - (hq_skp tx 32 i (j - i)))))))))) = j := fun h => c155 ((nI_eq (a := hq_skp tx 32 (hq_fnd tx 32 (hq_skp tx 32 (hq_fnd tx 32 (hq_skp tx 32 i (j - i)) (j - (hq_skp tx 32 i (j - i)))) (j - (hq_fnd tx 32 (hq_skp tx 32 i (j - i)) (j - (hq_skp tx 32 i (j - i)))))) (j - (hq_skp tx 32 (hq_fnd tx 32 (hq_skp tx 32 i (j - i)) (j - (hq_skp tx 32 i (j - i)))) (j - (hq_fnd tx 32 (hq_skp tx 32 i (j - i)) (j - (hq_skp tx 32 i (j - i)))))))) (j - (hq_fnd tx 32 (hq_skp tx 32 (hq_fnd tx 32 (hq_skp tx 32 i (j - i)) (j - (hq_skp tx 32 i (j - i)))) (j - (hq_fnd tx 32 (hq_skp tx 32 i (j - i)) (j - (hq_skp tx 32 i (j - i)))))) (j - (hq_skp tx 32 (hq_fnd tx 32 (hq_skp tx 32 i (j - i)) (j - (hq_skp tx 32 i (j - i)))) (j - (hq_fnd tx 32 (hq_skp tx 32 i (j - i)) (j - (hq_skp tx 32 i (j - i)))))))))) (b := j) (by omega) (by omega)).mpr h)
              refine lv_iconst (v := 0) hx hb d_M_head_162 (by decide) ?_
              have hP : va_P D hq_cl ([hq_o8 h (nI n) kd ru ya (nI sz) ta la (nI rg) (nI so) (hq_z bg) (nI nc) lfa rta (f_M_head_o1 tx i j) (f_M_head_o2 tx i j) (nI ft) fha fva fla (nI sp) (nI tc) tha tva wa sa ca va tt ld pt pw (nI rc) ra wn, hq_ai ta (G 0) 2000 tx] ++ Z) H := by rw [show f_M_head_o1 tx i j = hq_nuM tx (hq_skp tx 32 i (j - i)) (hq_fnd tx 32 (hq_skp tx 32 i (j - i)) (j - (hq_skp tx 32 i (j - i)))) by (rw [f_M_head_o1, if_neg c20] <;> rfl), show f_M_head_o2 tx i j = 1 by (rw [f_M_head_o2, if_neg c20, if_pos c65] <;> rfl)]; exact hP
              have hD : va_D A ([hq_o8 h (nI n) kd ru ya (nI sz) ta la (nI rg) (nI so) (hq_z bg) (nI nc) lfa rta (f_M_head_o1 tx i j) (f_M_head_o2 tx i j) (nI ft) fha fva fla (nI sp) (nI tc) tha tva wa sa ca va tt ld pt pw (nI rc) ra wn, hq_ai ta (G 0) 2000 tx] ++ Z) := by rw [show f_M_head_o1 tx i j = hq_nuM tx (hq_skp tx 32 i (j - i)) (hq_fnd tx 32 (hq_skp tx 32 i (j - i)) (j - (hq_skp tx 32 i (j - i)))) by (rw [f_M_head_o1, if_neg c20] <;> rfl), show f_M_head_o2 tx i j = 1 by (rw [f_M_head_o2, if_neg c20, if_pos c65] <;> rfl)]; exact hD
              exact hret 0 () H locs 163 ls d_M_head_163 (by rw [f_M_head, if_neg c20, if_pos c65, if_neg c137, if_neg c155] <;> rfl) hP hD hS
            · -- 155 not taken
              have c155 : (hq_skp tx 32 (hq_fnd tx 32 (hq_skp tx 32 (hq_fnd tx 32 (hq_skp tx 32 i (j - i)) (j - (hq_skp tx 32 i (j - i)))) (j - (hq_fnd tx 32 (hq_skp tx 32 i (j - i)) (j - (hq_skp tx 32 i (j - i)))))) (j - (hq_skp tx 32 (hq_fnd tx 32 (hq_skp tx 32 i (j - i)) (j - (hq_skp tx 32 i (j - i)))) (j - (hq_fnd tx 32 (hq_skp tx 32 i (j - i)) (j - (hq_skp tx 32 i (j - i)))))))) (j - (hq_fnd tx 32 (hq_skp tx 32 (hq_fnd tx 32 (hq_skp tx 32 i (j - i)) (j - (hq_skp tx 32 i (j - i)))) (j - (hq_fnd tx 32 (hq_skp tx 32 i (j - i)) (j - (hq_skp tx 32 i (j - i)))))) (j - (hq_skp tx 32 (hq_fnd tx 32 (hq_skp tx 32 i (j - i)) (j - (hq_skp tx 32 i (j - i)))) (j - (hq_fnd tx 32 (hq_skp tx 32 i (j - i)) (j - (hq_skp tx 32 i (j - i)))))))))) = j := (nI_eq (a := hq_skp tx 32 (hq_fnd tx 32 (hq_skp tx 32 (hq_fnd tx 32 (hq_skp tx 32 i (j - i)) (j - (hq_skp tx 32 i (j - i)))) (j - (hq_fnd tx 32 (hq_skp tx 32 i (j - i)) (j - (hq_skp tx 32 i (j - i)))))) (j - (hq_skp tx 32 (hq_fnd tx 32 (hq_skp tx 32 i (j - i)) (j - (hq_skp tx 32 i (j - i)))) (j - (hq_fnd tx 32 (hq_skp tx 32 i (j - i)) (j - (hq_skp tx 32 i (j - i)))))))) (j - (hq_fnd tx 32 (hq_skp tx 32 (hq_fnd tx 32 (hq_skp tx 32 i (j - i)) (j - (hq_skp tx 32 i (j - i)))) (j - (hq_fnd tx 32 (hq_skp tx 32 i (j - i)) (j - (hq_skp tx 32 i (j - i)))))) (j - (hq_skp tx 32 (hq_fnd tx 32 (hq_skp tx 32 i (j - i)) (j - (hq_skp tx 32 i (j - i)))) (j - (hq_fnd tx 32 (hq_skp tx 32 i (j - i)) (j - (hq_skp tx 32 i (j - i)))))))))) (b := j) (by omega) (by omega)).mp c155
              refine lv_iconst (v := 1) hx hb d_M_head_158 (by decide) ?_
              refine lv_goto (tgt := 163) hx hb d_M_head_159 rfl ?_
              have hP : va_P D hq_cl ([hq_o8 h (nI n) kd ru ya (nI sz) ta la (nI rg) (nI so) (hq_z bg) (nI nc) lfa rta (f_M_head_o1 tx i j) (f_M_head_o2 tx i j) (nI ft) fha fva fla (nI sp) (nI tc) tha tva wa sa ca va tt ld pt pw (nI rc) ra wn, hq_ai ta (G 0) 2000 tx] ++ Z) H := by rw [show f_M_head_o1 tx i j = hq_nuM tx (hq_skp tx 32 i (j - i)) (hq_fnd tx 32 (hq_skp tx 32 i (j - i)) (j - (hq_skp tx 32 i (j - i)))) by (rw [f_M_head_o1, if_neg c20] <;> rfl), show f_M_head_o2 tx i j = 1 by (rw [f_M_head_o2, if_neg c20, if_pos c65] <;> rfl)]; exact hP
              have hD : va_D A ([hq_o8 h (nI n) kd ru ya (nI sz) ta la (nI rg) (nI so) (hq_z bg) (nI nc) lfa rta (f_M_head_o1 tx i j) (f_M_head_o2 tx i j) (nI ft) fha fva fla (nI sp) (nI tc) tha tva wa sa ca va tt ld pt pw (nI rc) ra wn, hq_ai ta (G 0) 2000 tx] ++ Z) := by rw [show f_M_head_o1 tx i j = hq_nuM tx (hq_skp tx 32 i (j - i)) (hq_fnd tx 32 (hq_skp tx 32 i (j - i)) (j - (hq_skp tx 32 i (j - i)))) by (rw [f_M_head_o1, if_neg c20] <;> rfl), show f_M_head_o2 tx i j = 1 by (rw [f_M_head_o2, if_neg c20, if_pos c65] <;> rfl)]; exact hD
              exact hret 1 () H locs 163 ls d_M_head_163 (by rw [f_M_head, if_neg c20, if_pos c65, if_neg c137, if_pos c155] <;> rfl) hP hD hS
      · exact absurd (by decide) c77
    · -- 65 not taken
      have c65 : ¬ j ≤ (hq_skp tx 32 (hq_fnd tx 32 (hq_skp tx 32 i (j - i)) (j - (hq_skp tx 32 i (j - i)))) (j - (hq_fnd tx 32 (hq_skp tx 32 i (j - i)) (j - (hq_skp tx 32 i (j - i)))))) := fun h => c65 ((nI_leI (a := j) (b := hq_skp tx 32 (hq_fnd tx 32 (hq_skp tx 32 i (j - i)) (j - (hq_skp tx 32 i (j - i)))) (j - (hq_fnd tx 32 (hq_skp tx 32 i (j - i)) (j - (hq_skp tx 32 i (j - i)))))) (by omega) (by omega)).mpr h)
      refine lv_iconst (v := 1) hx hb d_M_head_68 (by decide) ?_
      refine lv_goto (tgt := 73) hx hb d_M_head_69 rfl ?_
      refine lv_istore (nL := 8) (lv' := [(7, .int 1), (6, .int (nI (hq_fnd tx 32 (hq_skp tx 32 (hq_fnd tx 32 (hq_skp tx 32 i (j - i)) (j - (hq_skp tx 32 i (j - i)))) (j - (hq_fnd tx 32 (hq_skp tx 32 i (j - i)) (j - (hq_skp tx 32 i (j - i)))))) (j - (hq_skp tx 32 (hq_fnd tx 32 (hq_skp tx 32 i (j - i)) (j - (hq_skp tx 32 i (j - i)))) (j - (hq_fnd tx 32 (hq_skp tx 32 i (j - i)) (j - (hq_skp tx 32 i (j - i)))))))))), (5, .int (nI (hq_skp tx 32 (hq_fnd tx 32 (hq_skp tx 32 i (j - i)) (j - (hq_skp tx 32 i (j - i)))) (j - (hq_fnd tx 32 (hq_skp tx 32 i (j - i)) (j - (hq_skp tx 32 i (j - i)))))))), (4, .int (nI (hq_fnd tx 32 (hq_skp tx 32 i (j - i)) (j - (hq_skp tx 32 i (j - i)))))), (3, .int (nI (hq_skp tx 32 i (j - i)))), (0, .ref h), (1, .int (nI i)), (2, .int (nI j))]) hx hb d_M_head_73 hl (by decide) rfl (fun ls hl => ?_)
      refine lv_iload hx hb d_M_head_75 (lv_at hl 0 rfl) ?_
      refine lv_if_eq (tgt := 131) hx hb d_M_head_77 rfl (fun c77 => ?_) (fun c77 => ?_)
      · exact absurd c77 (by decide)
      · skip
        refine lv_aload_n hx hb d_M_head_80 rfl (lv_at hl 5 rfl) ?_
        refine lv_iload hx hb d_M_head_81 (lv_at hl 1 rfl) ?_
        refine lv_iload hx hb d_M_head_83 (lv_at hl 2 rfl) ?_
        refine lv_isub hx hb d_M_head_85 ?_
        refine hq_topi (x' := nI ((hq_fnd tx 32 (hq_skp tx 32 (hq_fnd tx 32 (hq_skp tx 32 i (j - i)) (j - (hq_skp tx 32 i (j - i)))) (j - (hq_fnd tx 32 (hq_skp tx 32 i (j - i)) (j - (hq_skp tx 32 i (j - i)))))) (j - (hq_skp tx 32 (hq_fnd tx 32 (hq_skp tx 32 i (j - i)) (j - (hq_skp tx 32 i (j - i)))) (j - (hq_fnd tx 32 (hq_skp tx 32 i (j - i)) (j - (hq_skp tx 32 i (j - i)))))))) - (hq_skp tx 32 (hq_fnd tx 32 (hq_skp tx 32 i (j - i)) (j - (hq_skp tx 32 i (j - i)))) (j - (hq_fnd tx 32 (hq_skp tx 32 i (j - i)) (j - (hq_skp tx 32 i (j - i)))))))) (pk_sub (by omega)) ?_
        refine lv_iconst (v := 1) hx hb d_M_head_86 (by decide) ?_
        refine lv_icmp_ne (tgt := 127) hx hb d_M_head_87 rfl (fun c87 => ?_) (fun c87 => ?_)
        · -- 87 taken
          have c87 : ¬ ((hq_fnd tx 32 (hq_skp tx 32 (hq_fnd tx 32 (hq_skp tx 32 i (j - i)) (j - (hq_skp tx 32 i (j - i)))) (j - (hq_fnd tx 32 (hq_skp tx 32 i (j - i)) (j - (hq_skp tx 32 i (j - i)))))) (j - (hq_skp tx 32 (hq_fnd tx 32 (hq_skp tx 32 i (j - i)) (j - (hq_skp tx 32 i (j - i)))) (j - (hq_fnd tx 32 (hq_skp tx 32 i (j - i)) (j - (hq_skp tx 32 i (j - i)))))))) - (hq_skp tx 32 (hq_fnd tx 32 (hq_skp tx 32 i (j - i)) (j - (hq_skp tx 32 i (j - i)))) (j - (hq_fnd tx 32 (hq_skp tx 32 i (j - i)) (j - (hq_skp tx 32 i (j - i))))))) = 1 := fun h => c87 ((nI_eq (a := (hq_fnd tx 32 (hq_skp tx 32 (hq_fnd tx 32 (hq_skp tx 32 i (j - i)) (j - (hq_skp tx 32 i (j - i)))) (j - (hq_fnd tx 32 (hq_skp tx 32 i (j - i)) (j - (hq_skp tx 32 i (j - i)))))) (j - (hq_skp tx 32 (hq_fnd tx 32 (hq_skp tx 32 i (j - i)) (j - (hq_skp tx 32 i (j - i)))) (j - (hq_fnd tx 32 (hq_skp tx 32 i (j - i)) (j - (hq_skp tx 32 i (j - i)))))))) - (hq_skp tx 32 (hq_fnd tx 32 (hq_skp tx 32 i (j - i)) (j - (hq_skp tx 32 i (j - i)))) (j - (hq_fnd tx 32 (hq_skp tx 32 i (j - i)) (j - (hq_skp tx 32 i (j - i))))))) (b := 1) (by omega) (by omega)).mpr h)
          refine lv_iconst (v := 0) hx hb d_M_head_127 (by decide) ?_
          refine va_put (D := D) (ci := 8) (v := .int 0) (ty := .int) (C := R_M) (T := F_M) (N := 34) hx hb hts uw_M t_M t_M_ok n_M hown hK hP hD hS 0 rfl rfl 14 (by decide) (hts _ fl_M_100) (fun _ h9 => h9) rfl (by decide +kernel) (rfl) (rfl) (Nat.le_of_ble_eq_true rfl) d_M_head_128 (fun H locs hP hD hS => ?_)
          have hP : va_P D hq_cl ([hq_o8 h (nI n) kd ru ya (nI sz) ta la (nI rg) (nI so) (hq_z bg) (nI nc) lfa rta (hq_nuM tx (hq_skp tx 32 i (j - i)) (hq_fnd tx 32 (hq_skp tx 32 i (j - i)) (j - (hq_skp tx 32 i (j - i))))) 0 (nI ft) fha fva fla (nI sp) (nI tc) tha tva wa sa ca va tt ld pt pw (nI rc) ra wn, hq_ai ta (G 0) 2000 tx] ++ Z) H := hP
          have hD : va_D A ([hq_o8 h (nI n) kd ru ya (nI sz) ta la (nI rg) (nI so) (hq_z bg) (nI nc) lfa rta (hq_nuM tx (hq_skp tx 32 i (j - i)) (hq_fnd tx 32 (hq_skp tx 32 i (j - i)) (j - (hq_skp tx 32 i (j - i))))) 0 (nI ft) fha fva fla (nI sp) (nI tc) tha tva wa sa ca va tt ld pt pw (nI rc) ra wn, hq_ai ta (G 0) 2000 tx] ++ Z) := hD
          refine lv_aload_n hx hb d_M_head_131 rfl (lv_at hl 5 rfl) ?_
          refine va_get (D := D) (ci := 8) (v := .int (hq_nuM tx (hq_skp tx 32 i (j - i)) (hq_fnd tx 32 (hq_skp tx 32 i (j - i)) (j - (hq_skp tx 32 i (j - i)))))) (C := R_M) (T := F_M) (N := 34) hx hb hts uw_M hown hK hP 0 rfl rfl 13 (by decide) (hts _ fl_M_97) (fun _ h9 => h9) rfl d_M_head_132 ?_
          refine lv_ldc (v := 1000000) hx hb hown (hts _ ki_M_93) d_M_head_135 ?_
          refine lv_icmp_eq (tgt := 162) hx hb d_M_head_137 rfl (fun c137 => ?_) (fun c137 => ?_)
          · -- 137 taken
            have c137 : (hq_nuM tx (hq_skp tx 32 i (j - i)) (hq_fnd tx 32 (hq_skp tx 32 i (j - i)) (j - (hq_skp tx 32 i (j - i))))) = 1000000 := c137
            refine lv_iconst (v := 0) hx hb d_M_head_162 (by decide) ?_
            have hP : va_P D hq_cl ([hq_o8 h (nI n) kd ru ya (nI sz) ta la (nI rg) (nI so) (hq_z bg) (nI nc) lfa rta (f_M_head_o1 tx i j) (f_M_head_o2 tx i j) (nI ft) fha fva fla (nI sp) (nI tc) tha tva wa sa ca va tt ld pt pw (nI rc) ra wn, hq_ai ta (G 0) 2000 tx] ++ Z) H := by rw [show f_M_head_o1 tx i j = hq_nuM tx (hq_skp tx 32 i (j - i)) (hq_fnd tx 32 (hq_skp tx 32 i (j - i)) (j - (hq_skp tx 32 i (j - i)))) by (rw [f_M_head_o1, if_neg c20] <;> rfl), show f_M_head_o2 tx i j = 0 by (rw [f_M_head_o2, if_neg c20, if_neg c65, if_neg c87] <;> rfl)]; exact hP
            have hD : va_D A ([hq_o8 h (nI n) kd ru ya (nI sz) ta la (nI rg) (nI so) (hq_z bg) (nI nc) lfa rta (f_M_head_o1 tx i j) (f_M_head_o2 tx i j) (nI ft) fha fva fla (nI sp) (nI tc) tha tva wa sa ca va tt ld pt pw (nI rc) ra wn, hq_ai ta (G 0) 2000 tx] ++ Z) := by rw [show f_M_head_o1 tx i j = hq_nuM tx (hq_skp tx 32 i (j - i)) (hq_fnd tx 32 (hq_skp tx 32 i (j - i)) (j - (hq_skp tx 32 i (j - i)))) by (rw [f_M_head_o1, if_neg c20] <;> rfl), show f_M_head_o2 tx i j = 0 by (rw [f_M_head_o2, if_neg c20, if_neg c65, if_neg c87] <;> rfl)]; exact hD
            exact hret 0 () H locs 163 ls d_M_head_163 (by rw [f_M_head, if_neg c20, if_neg c65, if_neg c87] <;> rfl) hP hD hS
          · -- 137 not taken
            have c137 : ¬ (hq_nuM tx (hq_skp tx 32 i (j - i)) (hq_fnd tx 32 (hq_skp tx 32 i (j - i)) (j - (hq_skp tx 32 i (j - i))))) = 1000000 := c137
            refine lv_aload_n hx hb d_M_head_140 rfl (lv_at hl 5 rfl) ?_
            refine va_get (D := D) (ci := 8) (v := .int 0) (C := R_M) (T := F_M) (N := 34) hx hb hts uw_M hown hK hP 0 rfl rfl 14 (by decide) (hts _ fl_M_100) (fun _ h9 => h9) rfl d_M_head_141 ?_
            refine lv_if_le (tgt := 162) hx hb d_M_head_144 rfl (fun c144 => ?_) (fun c144 => ?_)
            · skip
              refine lv_iconst (v := 0) hx hb d_M_head_162 (by decide) ?_
              have hP : va_P D hq_cl ([hq_o8 h (nI n) kd ru ya (nI sz) ta la (nI rg) (nI so) (hq_z bg) (nI nc) lfa rta (f_M_head_o1 tx i j) (f_M_head_o2 tx i j) (nI ft) fha fva fla (nI sp) (nI tc) tha tva wa sa ca va tt ld pt pw (nI rc) ra wn, hq_ai ta (G 0) 2000 tx] ++ Z) H := by rw [show f_M_head_o1 tx i j = hq_nuM tx (hq_skp tx 32 i (j - i)) (hq_fnd tx 32 (hq_skp tx 32 i (j - i)) (j - (hq_skp tx 32 i (j - i)))) by (rw [f_M_head_o1, if_neg c20] <;> rfl), show f_M_head_o2 tx i j = 0 by (rw [f_M_head_o2, if_neg c20, if_neg c65, if_neg c87] <;> rfl)]; exact hP
              have hD : va_D A ([hq_o8 h (nI n) kd ru ya (nI sz) ta la (nI rg) (nI so) (hq_z bg) (nI nc) lfa rta (f_M_head_o1 tx i j) (f_M_head_o2 tx i j) (nI ft) fha fva fla (nI sp) (nI tc) tha tva wa sa ca va tt ld pt pw (nI rc) ra wn, hq_ai ta (G 0) 2000 tx] ++ Z) := by rw [show f_M_head_o1 tx i j = hq_nuM tx (hq_skp tx 32 i (j - i)) (hq_fnd tx 32 (hq_skp tx 32 i (j - i)) (j - (hq_skp tx 32 i (j - i)))) by (rw [f_M_head_o1, if_neg c20] <;> rfl), show f_M_head_o2 tx i j = 0 by (rw [f_M_head_o2, if_neg c20, if_neg c65, if_neg c87] <;> rfl)]; exact hD
              exact hret 0 () H locs 163 ls d_M_head_163 (by rw [f_M_head, if_neg c20, if_neg c65, if_neg c87] <;> rfl) hP hD hS
            · exact absurd (by decide) c144
        · -- 87 not taken
          have c87 : ((hq_fnd tx 32 (hq_skp tx 32 (hq_fnd tx 32 (hq_skp tx 32 i (j - i)) (j - (hq_skp tx 32 i (j - i)))) (j - (hq_fnd tx 32 (hq_skp tx 32 i (j - i)) (j - (hq_skp tx 32 i (j - i)))))) (j - (hq_skp tx 32 (hq_fnd tx 32 (hq_skp tx 32 i (j - i)) (j - (hq_skp tx 32 i (j - i)))) (j - (hq_fnd tx 32 (hq_skp tx 32 i (j - i)) (j - (hq_skp tx 32 i (j - i)))))))) - (hq_skp tx 32 (hq_fnd tx 32 (hq_skp tx 32 i (j - i)) (j - (hq_skp tx 32 i (j - i)))) (j - (hq_fnd tx 32 (hq_skp tx 32 i (j - i)) (j - (hq_skp tx 32 i (j - i))))))) = 1 := (nI_eq (a := (hq_fnd tx 32 (hq_skp tx 32 (hq_fnd tx 32 (hq_skp tx 32 i (j - i)) (j - (hq_skp tx 32 i (j - i)))) (j - (hq_fnd tx 32 (hq_skp tx 32 i (j - i)) (j - (hq_skp tx 32 i (j - i)))))) (j - (hq_skp tx 32 (hq_fnd tx 32 (hq_skp tx 32 i (j - i)) (j - (hq_skp tx 32 i (j - i)))) (j - (hq_fnd tx 32 (hq_skp tx 32 i (j - i)) (j - (hq_skp tx 32 i (j - i)))))))) - (hq_skp tx 32 (hq_fnd tx 32 (hq_skp tx 32 i (j - i)) (j - (hq_skp tx 32 i (j - i)))) (j - (hq_fnd tx 32 (hq_skp tx 32 i (j - i)) (j - (hq_skp tx 32 i (j - i))))))) (b := 1) (by omega) (by omega)).mp c87
          refine lv_aload_n hx hb d_M_head_90 rfl (lv_at hl 5 rfl) ?_
          refine va_get (D := D) (ci := 8) (v := .ref ta) (C := R_M) (T := F_M) (N := 34) hx hb hts uw_M hown hK hP 0 rfl rfl 5 (by decide) (hts _ fl_M_13) (fun _ h9 => h9) rfl d_M_head_91 ?_
          refine lv_iload hx hb d_M_head_94 (lv_at hl 2 rfl) ?_
          refine hq_iald (j := hq_skp tx 32 (hq_fnd tx 32 (hq_skp tx 32 i (j - i)) (j - (hq_skp tx 32 i (j - i)))) (j - (hq_fnd tx 32 (hq_skp tx 32 i (j - i)) (j - (hq_skp tx 32 i (j - i)))))) hx hb hK hP 1 rfl (by omega) (by omega) d_M_head_96 ?_
          refine lv_bipush (v := 49) hx hb d_M_head_97 (by decide) ?_
          refine lv_icmp_lt (tgt := 127) hx hb d_M_head_99 rfl (fun c99 => ?_) (fun c99 => ?_)
          · -- 99 taken
            have c99 : (tx (hq_skp tx 32 (hq_fnd tx 32 (hq_skp tx 32 i (j - i)) (j - (hq_skp tx 32 i (j - i)))) (j - (hq_fnd tx 32 (hq_skp tx 32 i (j - i)) (j - (hq_skp tx 32 i (j - i))))))) < 49 := c99
            refine lv_iconst (v := 0) hx hb d_M_head_127 (by decide) ?_
            refine va_put (D := D) (ci := 8) (v := .int 0) (ty := .int) (C := R_M) (T := F_M) (N := 34) hx hb hts uw_M t_M t_M_ok n_M hown hK hP hD hS 0 rfl rfl 14 (by decide) (hts _ fl_M_100) (fun _ h9 => h9) rfl (by decide +kernel) (rfl) (rfl) (Nat.le_of_ble_eq_true rfl) d_M_head_128 (fun H locs hP hD hS => ?_)
            have hP : va_P D hq_cl ([hq_o8 h (nI n) kd ru ya (nI sz) ta la (nI rg) (nI so) (hq_z bg) (nI nc) lfa rta (hq_nuM tx (hq_skp tx 32 i (j - i)) (hq_fnd tx 32 (hq_skp tx 32 i (j - i)) (j - (hq_skp tx 32 i (j - i))))) 0 (nI ft) fha fva fla (nI sp) (nI tc) tha tva wa sa ca va tt ld pt pw (nI rc) ra wn, hq_ai ta (G 0) 2000 tx] ++ Z) H := hP
            have hD : va_D A ([hq_o8 h (nI n) kd ru ya (nI sz) ta la (nI rg) (nI so) (hq_z bg) (nI nc) lfa rta (hq_nuM tx (hq_skp tx 32 i (j - i)) (hq_fnd tx 32 (hq_skp tx 32 i (j - i)) (j - (hq_skp tx 32 i (j - i))))) 0 (nI ft) fha fva fla (nI sp) (nI tc) tha tva wa sa ca va tt ld pt pw (nI rc) ra wn, hq_ai ta (G 0) 2000 tx] ++ Z) := hD
            refine lv_aload_n hx hb d_M_head_131 rfl (lv_at hl 5 rfl) ?_
            refine va_get (D := D) (ci := 8) (v := .int (hq_nuM tx (hq_skp tx 32 i (j - i)) (hq_fnd tx 32 (hq_skp tx 32 i (j - i)) (j - (hq_skp tx 32 i (j - i)))))) (C := R_M) (T := F_M) (N := 34) hx hb hts uw_M hown hK hP 0 rfl rfl 13 (by decide) (hts _ fl_M_97) (fun _ h9 => h9) rfl d_M_head_132 ?_
            refine lv_ldc (v := 1000000) hx hb hown (hts _ ki_M_93) d_M_head_135 ?_
            refine lv_icmp_eq (tgt := 162) hx hb d_M_head_137 rfl (fun c137 => ?_) (fun c137 => ?_)
            · -- 137 taken
              have c137 : (hq_nuM tx (hq_skp tx 32 i (j - i)) (hq_fnd tx 32 (hq_skp tx 32 i (j - i)) (j - (hq_skp tx 32 i (j - i))))) = 1000000 := c137
              refine lv_iconst (v := 0) hx hb d_M_head_162 (by decide) ?_
              have hP : va_P D hq_cl ([hq_o8 h (nI n) kd ru ya (nI sz) ta la (nI rg) (nI so) (hq_z bg) (nI nc) lfa rta (f_M_head_o1 tx i j) (f_M_head_o2 tx i j) (nI ft) fha fva fla (nI sp) (nI tc) tha tva wa sa ca va tt ld pt pw (nI rc) ra wn, hq_ai ta (G 0) 2000 tx] ++ Z) H := by rw [show f_M_head_o1 tx i j = hq_nuM tx (hq_skp tx 32 i (j - i)) (hq_fnd tx 32 (hq_skp tx 32 i (j - i)) (j - (hq_skp tx 32 i (j - i)))) by (rw [f_M_head_o1, if_neg c20] <;> rfl), show f_M_head_o2 tx i j = 0 by (rw [f_M_head_o2, if_neg c20, if_neg c65, if_pos c87, if_pos c99] <;> rfl)]; exact hP
              have hD : va_D A ([hq_o8 h (nI n) kd ru ya (nI sz) ta la (nI rg) (nI so) (hq_z bg) (nI nc) lfa rta (f_M_head_o1 tx i j) (f_M_head_o2 tx i j) (nI ft) fha fva fla (nI sp) (nI tc) tha tva wa sa ca va tt ld pt pw (nI rc) ra wn, hq_ai ta (G 0) 2000 tx] ++ Z) := by rw [show f_M_head_o1 tx i j = hq_nuM tx (hq_skp tx 32 i (j - i)) (hq_fnd tx 32 (hq_skp tx 32 i (j - i)) (j - (hq_skp tx 32 i (j - i)))) by (rw [f_M_head_o1, if_neg c20] <;> rfl), show f_M_head_o2 tx i j = 0 by (rw [f_M_head_o2, if_neg c20, if_neg c65, if_pos c87, if_pos c99] <;> rfl)]; exact hD
              exact hret 0 () H locs 163 ls d_M_head_163 (by rw [f_M_head, if_neg c20, if_neg c65, if_pos c87, if_pos c99] <;> rfl) hP hD hS
            · -- 137 not taken
              have c137 : ¬ (hq_nuM tx (hq_skp tx 32 i (j - i)) (hq_fnd tx 32 (hq_skp tx 32 i (j - i)) (j - (hq_skp tx 32 i (j - i))))) = 1000000 := c137
              refine lv_aload_n hx hb d_M_head_140 rfl (lv_at hl 5 rfl) ?_
              refine va_get (D := D) (ci := 8) (v := .int 0) (C := R_M) (T := F_M) (N := 34) hx hb hts uw_M hown hK hP 0 rfl rfl 14 (by decide) (hts _ fl_M_100) (fun _ h9 => h9) rfl d_M_head_141 ?_
              refine lv_if_le (tgt := 162) hx hb d_M_head_144 rfl (fun c144 => ?_) (fun c144 => ?_)
              · skip
                refine lv_iconst (v := 0) hx hb d_M_head_162 (by decide) ?_
                have hP : va_P D hq_cl ([hq_o8 h (nI n) kd ru ya (nI sz) ta la (nI rg) (nI so) (hq_z bg) (nI nc) lfa rta (f_M_head_o1 tx i j) (f_M_head_o2 tx i j) (nI ft) fha fva fla (nI sp) (nI tc) tha tva wa sa ca va tt ld pt pw (nI rc) ra wn, hq_ai ta (G 0) 2000 tx] ++ Z) H := by rw [show f_M_head_o1 tx i j = hq_nuM tx (hq_skp tx 32 i (j - i)) (hq_fnd tx 32 (hq_skp tx 32 i (j - i)) (j - (hq_skp tx 32 i (j - i)))) by (rw [f_M_head_o1, if_neg c20] <;> rfl), show f_M_head_o2 tx i j = 0 by (rw [f_M_head_o2, if_neg c20, if_neg c65, if_pos c87, if_pos c99] <;> rfl)]; exact hP
                have hD : va_D A ([hq_o8 h (nI n) kd ru ya (nI sz) ta la (nI rg) (nI so) (hq_z bg) (nI nc) lfa rta (f_M_head_o1 tx i j) (f_M_head_o2 tx i j) (nI ft) fha fva fla (nI sp) (nI tc) tha tva wa sa ca va tt ld pt pw (nI rc) ra wn, hq_ai ta (G 0) 2000 tx] ++ Z) := by rw [show f_M_head_o1 tx i j = hq_nuM tx (hq_skp tx 32 i (j - i)) (hq_fnd tx 32 (hq_skp tx 32 i (j - i)) (j - (hq_skp tx 32 i (j - i)))) by (rw [f_M_head_o1, if_neg c20] <;> rfl), show f_M_head_o2 tx i j = 0 by (rw [f_M_head_o2, if_neg c20, if_neg c65, if_pos c87, if_pos c99] <;> rfl)]; exact hD
                exact hret 0 () H locs 163 ls d_M_head_163 (by rw [f_M_head, if_neg c20, if_neg c65, if_pos c87, if_pos c99] <;> rfl) hP hD hS
              · exact absurd (by decide) c144
          · -- 99 not taken
            have c99 : ¬ (tx (hq_skp tx 32 (hq_fnd tx 32 (hq_skp tx 32 i (j - i)) (j - (hq_skp tx 32 i (j - i)))) (j - (hq_fnd tx 32 (hq_skp tx 32 i (j - i)) (j - (hq_skp tx 32 i (j - i))))))) < 49 := c99
            refine lv_aload_n hx hb d_M_head_102 rfl (lv_at hl 5 rfl) ?_
            refine va_get (D := D) (ci := 8) (v := .ref ta) (C := R_M) (T := F_M) (N := 34) hx hb hts uw_M hown hK hP 0 rfl rfl 5 (by decide) (hts _ fl_M_13) (fun _ h9 => h9) rfl d_M_head_103 ?_
            refine lv_iload hx hb d_M_head_106 (lv_at hl 2 rfl) ?_
            refine hq_iald (j := hq_skp tx 32 (hq_fnd tx 32 (hq_skp tx 32 i (j - i)) (j - (hq_skp tx 32 i (j - i)))) (j - (hq_fnd tx 32 (hq_skp tx 32 i (j - i)) (j - (hq_skp tx 32 i (j - i)))))) hx hb hK hP 1 rfl (by omega) (by omega) d_M_head_108 ?_
            refine lv_bipush (v := 53) hx hb d_M_head_109 (by decide) ?_
            refine lv_icmp_gt (tgt := 127) hx hb d_M_head_111 rfl (fun c111 => ?_) (fun c111 => ?_)
            · -- 111 taken
              have c111 : 53 < (tx (hq_skp tx 32 (hq_fnd tx 32 (hq_skp tx 32 i (j - i)) (j - (hq_skp tx 32 i (j - i)))) (j - (hq_fnd tx 32 (hq_skp tx 32 i (j - i)) (j - (hq_skp tx 32 i (j - i))))))) := c111
              refine lv_iconst (v := 0) hx hb d_M_head_127 (by decide) ?_
              refine va_put (D := D) (ci := 8) (v := .int 0) (ty := .int) (C := R_M) (T := F_M) (N := 34) hx hb hts uw_M t_M t_M_ok n_M hown hK hP hD hS 0 rfl rfl 14 (by decide) (hts _ fl_M_100) (fun _ h9 => h9) rfl (by decide +kernel) (rfl) (rfl) (Nat.le_of_ble_eq_true rfl) d_M_head_128 (fun H locs hP hD hS => ?_)
              have hP : va_P D hq_cl ([hq_o8 h (nI n) kd ru ya (nI sz) ta la (nI rg) (nI so) (hq_z bg) (nI nc) lfa rta (hq_nuM tx (hq_skp tx 32 i (j - i)) (hq_fnd tx 32 (hq_skp tx 32 i (j - i)) (j - (hq_skp tx 32 i (j - i))))) 0 (nI ft) fha fva fla (nI sp) (nI tc) tha tva wa sa ca va tt ld pt pw (nI rc) ra wn, hq_ai ta (G 0) 2000 tx] ++ Z) H := hP
              have hD : va_D A ([hq_o8 h (nI n) kd ru ya (nI sz) ta la (nI rg) (nI so) (hq_z bg) (nI nc) lfa rta (hq_nuM tx (hq_skp tx 32 i (j - i)) (hq_fnd tx 32 (hq_skp tx 32 i (j - i)) (j - (hq_skp tx 32 i (j - i))))) 0 (nI ft) fha fva fla (nI sp) (nI tc) tha tva wa sa ca va tt ld pt pw (nI rc) ra wn, hq_ai ta (G 0) 2000 tx] ++ Z) := hD
              refine lv_aload_n hx hb d_M_head_131 rfl (lv_at hl 5 rfl) ?_
              refine va_get (D := D) (ci := 8) (v := .int (hq_nuM tx (hq_skp tx 32 i (j - i)) (hq_fnd tx 32 (hq_skp tx 32 i (j - i)) (j - (hq_skp tx 32 i (j - i)))))) (C := R_M) (T := F_M) (N := 34) hx hb hts uw_M hown hK hP 0 rfl rfl 13 (by decide) (hts _ fl_M_97) (fun _ h9 => h9) rfl d_M_head_132 ?_
              refine lv_ldc (v := 1000000) hx hb hown (hts _ ki_M_93) d_M_head_135 ?_
              refine lv_icmp_eq (tgt := 162) hx hb d_M_head_137 rfl (fun c137 => ?_) (fun c137 => ?_)
              · -- 137 taken
                have c137 : (hq_nuM tx (hq_skp tx 32 i (j - i)) (hq_fnd tx 32 (hq_skp tx 32 i (j - i)) (j - (hq_skp tx 32 i (j - i))))) = 1000000 := c137
                refine lv_iconst (v := 0) hx hb d_M_head_162 (by decide) ?_
                have hP : va_P D hq_cl ([hq_o8 h (nI n) kd ru ya (nI sz) ta la (nI rg) (nI so) (hq_z bg) (nI nc) lfa rta (f_M_head_o1 tx i j) (f_M_head_o2 tx i j) (nI ft) fha fva fla (nI sp) (nI tc) tha tva wa sa ca va tt ld pt pw (nI rc) ra wn, hq_ai ta (G 0) 2000 tx] ++ Z) H := by rw [show f_M_head_o1 tx i j = hq_nuM tx (hq_skp tx 32 i (j - i)) (hq_fnd tx 32 (hq_skp tx 32 i (j - i)) (j - (hq_skp tx 32 i (j - i)))) by (rw [f_M_head_o1, if_neg c20] <;> rfl), show f_M_head_o2 tx i j = 0 by (rw [f_M_head_o2, if_neg c20, if_neg c65, if_pos c87, if_neg c99, if_pos c111] <;> rfl)]; exact hP
                have hD : va_D A ([hq_o8 h (nI n) kd ru ya (nI sz) ta la (nI rg) (nI so) (hq_z bg) (nI nc) lfa rta (f_M_head_o1 tx i j) (f_M_head_o2 tx i j) (nI ft) fha fva fla (nI sp) (nI tc) tha tva wa sa ca va tt ld pt pw (nI rc) ra wn, hq_ai ta (G 0) 2000 tx] ++ Z) := by rw [show f_M_head_o1 tx i j = hq_nuM tx (hq_skp tx 32 i (j - i)) (hq_fnd tx 32 (hq_skp tx 32 i (j - i)) (j - (hq_skp tx 32 i (j - i)))) by (rw [f_M_head_o1, if_neg c20] <;> rfl), show f_M_head_o2 tx i j = 0 by (rw [f_M_head_o2, if_neg c20, if_neg c65, if_pos c87, if_neg c99, if_pos c111] <;> rfl)]; exact hD
                exact hret 0 () H locs 163 ls d_M_head_163 (by rw [f_M_head, if_neg c20, if_neg c65, if_pos c87, if_neg c99, if_pos c111] <;> rfl) hP hD hS
              · -- 137 not taken
                have c137 : ¬ (hq_nuM tx (hq_skp tx 32 i (j - i)) (hq_fnd tx 32 (hq_skp tx 32 i (j - i)) (j - (hq_skp tx 32 i (j - i))))) = 1000000 := c137
                refine lv_aload_n hx hb d_M_head_140 rfl (lv_at hl 5 rfl) ?_
                refine va_get (D := D) (ci := 8) (v := .int 0) (C := R_M) (T := F_M) (N := 34) hx hb hts uw_M hown hK hP 0 rfl rfl 14 (by decide) (hts _ fl_M_100) (fun _ h9 => h9) rfl d_M_head_141 ?_
                refine lv_if_le (tgt := 162) hx hb d_M_head_144 rfl (fun c144 => ?_) (fun c144 => ?_)
                · skip
                  refine lv_iconst (v := 0) hx hb d_M_head_162 (by decide) ?_
                  have hP : va_P D hq_cl ([hq_o8 h (nI n) kd ru ya (nI sz) ta la (nI rg) (nI so) (hq_z bg) (nI nc) lfa rta (f_M_head_o1 tx i j) (f_M_head_o2 tx i j) (nI ft) fha fva fla (nI sp) (nI tc) tha tva wa sa ca va tt ld pt pw (nI rc) ra wn, hq_ai ta (G 0) 2000 tx] ++ Z) H := by rw [show f_M_head_o1 tx i j = hq_nuM tx (hq_skp tx 32 i (j - i)) (hq_fnd tx 32 (hq_skp tx 32 i (j - i)) (j - (hq_skp tx 32 i (j - i)))) by (rw [f_M_head_o1, if_neg c20] <;> rfl), show f_M_head_o2 tx i j = 0 by (rw [f_M_head_o2, if_neg c20, if_neg c65, if_pos c87, if_neg c99, if_pos c111] <;> rfl)]; exact hP
                  have hD : va_D A ([hq_o8 h (nI n) kd ru ya (nI sz) ta la (nI rg) (nI so) (hq_z bg) (nI nc) lfa rta (f_M_head_o1 tx i j) (f_M_head_o2 tx i j) (nI ft) fha fva fla (nI sp) (nI tc) tha tva wa sa ca va tt ld pt pw (nI rc) ra wn, hq_ai ta (G 0) 2000 tx] ++ Z) := by rw [show f_M_head_o1 tx i j = hq_nuM tx (hq_skp tx 32 i (j - i)) (hq_fnd tx 32 (hq_skp tx 32 i (j - i)) (j - (hq_skp tx 32 i (j - i)))) by (rw [f_M_head_o1, if_neg c20] <;> rfl), show f_M_head_o2 tx i j = 0 by (rw [f_M_head_o2, if_neg c20, if_neg c65, if_pos c87, if_neg c99, if_pos c111] <;> rfl)]; exact hD
                  exact hret 0 () H locs 163 ls d_M_head_163 (by rw [f_M_head, if_neg c20, if_neg c65, if_pos c87, if_neg c99, if_pos c111] <;> rfl) hP hD hS
                · exact absurd (by decide) c144
            · -- 111 not taken
              have c111 : ¬ 53 < (tx (hq_skp tx 32 (hq_fnd tx 32 (hq_skp tx 32 i (j - i)) (j - (hq_skp tx 32 i (j - i)))) (j - (hq_fnd tx 32 (hq_skp tx 32 i (j - i)) (j - (hq_skp tx 32 i (j - i))))))) := c111
              refine lv_aload_n hx hb d_M_head_114 rfl (lv_at hl 5 rfl) ?_
              refine va_get (D := D) (ci := 8) (v := .ref ta) (C := R_M) (T := F_M) (N := 34) hx hb hts uw_M hown hK hP 0 rfl rfl 5 (by decide) (hts _ fl_M_13) (fun _ h9 => h9) rfl d_M_head_115 ?_
              refine lv_iload hx hb d_M_head_118 (lv_at hl 2 rfl) ?_
              refine hq_iald (j := hq_skp tx 32 (hq_fnd tx 32 (hq_skp tx 32 i (j - i)) (j - (hq_skp tx 32 i (j - i)))) (j - (hq_fnd tx 32 (hq_skp tx 32 i (j - i)) (j - (hq_skp tx 32 i (j - i)))))) hx hb hK hP 1 rfl (by omega) (by omega) d_M_head_120 ?_
              refine lv_bipush (v := 48) hx hb d_M_head_121 (by decide) ?_
              refine lv_isub hx hb d_M_head_123 ?_
              refine lv_goto (tgt := 128) hx hb d_M_head_124 rfl ?_
              refine va_put (D := D) (ci := 8) (v := .int ((tx (hq_skp tx 32 (hq_fnd tx 32 (hq_skp tx 32 i (j - i)) (j - (hq_skp tx 32 i (j - i)))) (j - (hq_fnd tx 32 (hq_skp tx 32 i (j - i)) (j - (hq_skp tx 32 i (j - i))))))) - 48)) (ty := .int) (C := R_M) (T := F_M) (N := 34) hx hb hts uw_M t_M t_M_ok n_M hown hK hP hD hS 0 rfl rfl 14 (by decide) (hts _ fl_M_100) (fun _ h9 => h9) rfl (by decide +kernel) (rfl) (rfl) (Nat.le_of_ble_eq_true rfl) d_M_head_128 (fun H locs hP hD hS => ?_)
              have hP : va_P D hq_cl ([hq_o8 h (nI n) kd ru ya (nI sz) ta la (nI rg) (nI so) (hq_z bg) (nI nc) lfa rta (hq_nuM tx (hq_skp tx 32 i (j - i)) (hq_fnd tx 32 (hq_skp tx 32 i (j - i)) (j - (hq_skp tx 32 i (j - i))))) ((tx (hq_skp tx 32 (hq_fnd tx 32 (hq_skp tx 32 i (j - i)) (j - (hq_skp tx 32 i (j - i)))) (j - (hq_fnd tx 32 (hq_skp tx 32 i (j - i)) (j - (hq_skp tx 32 i (j - i))))))) - 48) (nI ft) fha fva fla (nI sp) (nI tc) tha tva wa sa ca va tt ld pt pw (nI rc) ra wn, hq_ai ta (G 0) 2000 tx] ++ Z) H := hP
              have hD : va_D A ([hq_o8 h (nI n) kd ru ya (nI sz) ta la (nI rg) (nI so) (hq_z bg) (nI nc) lfa rta (hq_nuM tx (hq_skp tx 32 i (j - i)) (hq_fnd tx 32 (hq_skp tx 32 i (j - i)) (j - (hq_skp tx 32 i (j - i))))) ((tx (hq_skp tx 32 (hq_fnd tx 32 (hq_skp tx 32 i (j - i)) (j - (hq_skp tx 32 i (j - i)))) (j - (hq_fnd tx 32 (hq_skp tx 32 i (j - i)) (j - (hq_skp tx 32 i (j - i))))))) - 48) (nI ft) fha fva fla (nI sp) (nI tc) tha tva wa sa ca va tt ld pt pw (nI rc) ra wn, hq_ai ta (G 0) 2000 tx] ++ Z) := hD
              refine lv_aload_n hx hb d_M_head_131 rfl (lv_at hl 5 rfl) ?_
              refine va_get (D := D) (ci := 8) (v := .int (hq_nuM tx (hq_skp tx 32 i (j - i)) (hq_fnd tx 32 (hq_skp tx 32 i (j - i)) (j - (hq_skp tx 32 i (j - i)))))) (C := R_M) (T := F_M) (N := 34) hx hb hts uw_M hown hK hP 0 rfl rfl 13 (by decide) (hts _ fl_M_97) (fun _ h9 => h9) rfl d_M_head_132 ?_
              refine lv_ldc (v := 1000000) hx hb hown (hts _ ki_M_93) d_M_head_135 ?_
              refine lv_icmp_eq (tgt := 162) hx hb d_M_head_137 rfl (fun c137 => ?_) (fun c137 => ?_)
              · -- 137 taken
                have c137 : (hq_nuM tx (hq_skp tx 32 i (j - i)) (hq_fnd tx 32 (hq_skp tx 32 i (j - i)) (j - (hq_skp tx 32 i (j - i))))) = 1000000 := c137
                refine lv_iconst (v := 0) hx hb d_M_head_162 (by decide) ?_
                have hP : va_P D hq_cl ([hq_o8 h (nI n) kd ru ya (nI sz) ta la (nI rg) (nI so) (hq_z bg) (nI nc) lfa rta (f_M_head_o1 tx i j) (f_M_head_o2 tx i j) (nI ft) fha fva fla (nI sp) (nI tc) tha tva wa sa ca va tt ld pt pw (nI rc) ra wn, hq_ai ta (G 0) 2000 tx] ++ Z) H := by rw [show f_M_head_o1 tx i j = hq_nuM tx (hq_skp tx 32 i (j - i)) (hq_fnd tx 32 (hq_skp tx 32 i (j - i)) (j - (hq_skp tx 32 i (j - i)))) by (rw [f_M_head_o1, if_neg c20] <;> rfl), show f_M_head_o2 tx i j = (tx (hq_skp tx 32 (hq_fnd tx 32 (hq_skp tx 32 i (j - i)) (j - (hq_skp tx 32 i (j - i)))) (j - (hq_fnd tx 32 (hq_skp tx 32 i (j - i)) (j - (hq_skp tx 32 i (j - i))))))) - 48 by (rw [f_M_head_o2, if_neg c20, if_neg c65, if_pos c87, if_neg c99, if_neg c111] <;> rfl)]; exact hP
                have hD : va_D A ([hq_o8 h (nI n) kd ru ya (nI sz) ta la (nI rg) (nI so) (hq_z bg) (nI nc) lfa rta (f_M_head_o1 tx i j) (f_M_head_o2 tx i j) (nI ft) fha fva fla (nI sp) (nI tc) tha tva wa sa ca va tt ld pt pw (nI rc) ra wn, hq_ai ta (G 0) 2000 tx] ++ Z) := by rw [show f_M_head_o1 tx i j = hq_nuM tx (hq_skp tx 32 i (j - i)) (hq_fnd tx 32 (hq_skp tx 32 i (j - i)) (j - (hq_skp tx 32 i (j - i)))) by (rw [f_M_head_o1, if_neg c20] <;> rfl), show f_M_head_o2 tx i j = (tx (hq_skp tx 32 (hq_fnd tx 32 (hq_skp tx 32 i (j - i)) (j - (hq_skp tx 32 i (j - i)))) (j - (hq_fnd tx 32 (hq_skp tx 32 i (j - i)) (j - (hq_skp tx 32 i (j - i))))))) - 48 by (rw [f_M_head_o2, if_neg c20, if_neg c65, if_pos c87, if_neg c99, if_neg c111] <;> rfl)]; exact hD
                exact hret 0 () H locs 163 ls d_M_head_163 (by rw [f_M_head, if_neg c20, if_neg c65, if_pos c87, if_neg c99, if_neg c111, if_pos c137] <;> rfl) hP hD hS
              · -- 137 not taken
                have c137 : ¬ (hq_nuM tx (hq_skp tx 32 i (j - i)) (hq_fnd tx 32 (hq_skp tx 32 i (j - i)) (j - (hq_skp tx 32 i (j - i))))) = 1000000 := c137
                refine lv_aload_n hx hb d_M_head_140 rfl (lv_at hl 5 rfl) ?_
                refine va_get (D := D) (ci := 8) (v := .int ((tx (hq_skp tx 32 (hq_fnd tx 32 (hq_skp tx 32 i (j - i)) (j - (hq_skp tx 32 i (j - i)))) (j - (hq_fnd tx 32 (hq_skp tx 32 i (j - i)) (j - (hq_skp tx 32 i (j - i))))))) - 48)) (C := R_M) (T := F_M) (N := 34) hx hb hts uw_M hown hK hP 0 rfl rfl 14 (by decide) (hts _ fl_M_100) (fun _ h9 => h9) rfl d_M_head_141 ?_
                refine lv_if_le (tgt := 162) hx hb d_M_head_144 rfl (fun c144 => ?_) (fun c144 => ?_)
                · -- 144 taken
                  have c144 : ((tx (hq_skp tx 32 (hq_fnd tx 32 (hq_skp tx 32 i (j - i)) (j - (hq_skp tx 32 i (j - i)))) (j - (hq_fnd tx 32 (hq_skp tx 32 i (j - i)) (j - (hq_skp tx 32 i (j - i))))))) - 48) ≤ 0 := c144
                  refine lv_iconst (v := 0) hx hb d_M_head_162 (by decide) ?_
                  have hP : va_P D hq_cl ([hq_o8 h (nI n) kd ru ya (nI sz) ta la (nI rg) (nI so) (hq_z bg) (nI nc) lfa rta (f_M_head_o1 tx i j) (f_M_head_o2 tx i j) (nI ft) fha fva fla (nI sp) (nI tc) tha tva wa sa ca va tt ld pt pw (nI rc) ra wn, hq_ai ta (G 0) 2000 tx] ++ Z) H := by rw [show f_M_head_o1 tx i j = hq_nuM tx (hq_skp tx 32 i (j - i)) (hq_fnd tx 32 (hq_skp tx 32 i (j - i)) (j - (hq_skp tx 32 i (j - i)))) by (rw [f_M_head_o1, if_neg c20] <;> rfl), show f_M_head_o2 tx i j = (tx (hq_skp tx 32 (hq_fnd tx 32 (hq_skp tx 32 i (j - i)) (j - (hq_skp tx 32 i (j - i)))) (j - (hq_fnd tx 32 (hq_skp tx 32 i (j - i)) (j - (hq_skp tx 32 i (j - i))))))) - 48 by (rw [f_M_head_o2, if_neg c20, if_neg c65, if_pos c87, if_neg c99, if_neg c111] <;> rfl)]; exact hP
                  have hD : va_D A ([hq_o8 h (nI n) kd ru ya (nI sz) ta la (nI rg) (nI so) (hq_z bg) (nI nc) lfa rta (f_M_head_o1 tx i j) (f_M_head_o2 tx i j) (nI ft) fha fva fla (nI sp) (nI tc) tha tva wa sa ca va tt ld pt pw (nI rc) ra wn, hq_ai ta (G 0) 2000 tx] ++ Z) := by rw [show f_M_head_o1 tx i j = hq_nuM tx (hq_skp tx 32 i (j - i)) (hq_fnd tx 32 (hq_skp tx 32 i (j - i)) (j - (hq_skp tx 32 i (j - i)))) by (rw [f_M_head_o1, if_neg c20] <;> rfl), show f_M_head_o2 tx i j = (tx (hq_skp tx 32 (hq_fnd tx 32 (hq_skp tx 32 i (j - i)) (j - (hq_skp tx 32 i (j - i)))) (j - (hq_fnd tx 32 (hq_skp tx 32 i (j - i)) (j - (hq_skp tx 32 i (j - i))))))) - 48 by (rw [f_M_head_o2, if_neg c20, if_neg c65, if_pos c87, if_neg c99, if_neg c111] <;> rfl)]; exact hD
                  exact hret 0 () H locs 163 ls d_M_head_163 (by rw [f_M_head, if_neg c20, if_neg c65, if_pos c87, if_neg c99, if_neg c111, if_neg c137, if_pos c144] <;> rfl) hP hD hS
                · -- 144 not taken
                  have c144 : ¬ ((tx (hq_skp tx 32 (hq_fnd tx 32 (hq_skp tx 32 i (j - i)) (j - (hq_skp tx 32 i (j - i)))) (j - (hq_fnd tx 32 (hq_skp tx 32 i (j - i)) (j - (hq_skp tx 32 i (j - i))))))) - 48) ≤ 0 := c144
                  refine lv_aload_n hx hb d_M_head_147 rfl (lv_at hl 5 rfl) ?_
                  refine lv_iload hx hb d_M_head_148 (lv_at hl 1 rfl) ?_
                  refine lv_iload_n hx hb d_M_head_150 rfl (lv_at hl 7 rfl) ?_
                  have hPc : va_P D hq_cl ([hq_o8 h (nI n) kd ru ya (nI sz) ta la (nI rg) (nI so) (hq_z bg) (nI nc) lfa rta (hq_nuM tx (hq_skp tx 32 i (j - i)) (hq_fnd tx 32 (hq_skp tx 32 i (j - i)) (j - (hq_skp tx 32 i (j - i))))) ((tx (hq_skp tx 32 (hq_fnd tx 32 (hq_skp tx 32 i (j - i)) (j - (hq_skp tx 32 i (j - i)))) (j - (hq_fnd tx 32 (hq_skp tx 32 i (j - i)) (j - (hq_skp tx 32 i (j - i))))))) - 48) (nI ft) fha fva fla (nI sp) (nI tc) tha tva wa sa ca va tt ld pt pw (nI rc) ra wn, hq_ai ta (G 0) 2000 tx] ++ Z) H := hP
                  have hDc : va_D A ([hq_o8 h (nI n) kd ru ya (nI sz) ta la (nI rg) (nI so) (hq_z bg) (nI nc) lfa rta (hq_nuM tx (hq_skp tx 32 i (j - i)) (hq_fnd tx 32 (hq_skp tx 32 i (j - i)) (j - (hq_skp tx 32 i (j - i))))) ((tx (hq_skp tx 32 (hq_fnd tx 32 (hq_skp tx 32 i (j - i)) (j - (hq_skp tx 32 i (j - i)))) (j - (hq_fnd tx 32 (hq_skp tx 32 i (j - i)) (j - (hq_skp tx 32 i (j - i))))))) - 48) (nI ft) fha fva fla (nI sp) (nI tc) tha tva wa sa ca va tt ld pt pw (nI rc) ra wn, hq_ai ta (G 0) 2000 tx] ++ Z) := hD
                  refine hq_iF (hq_rV (As := [.int (nI (hq_fnd tx 32 (hq_skp tx 32 (hq_fnd tx 32 (hq_skp tx 32 i (j - i)) (j - (hq_skp tx 32 i (j - i)))) (j - (hq_fnd tx 32 (hq_skp tx 32 i (j - i)) (j - (hq_skp tx 32 i (j - i)))))) (j - (hq_skp tx 32 (hq_fnd tx 32 (hq_skp tx 32 i (j - i)) (j - (hq_skp tx 32 i (j - i)))) (j - (hq_fnd tx 32 (hq_skp tx 32 i (j - i)) (j - (hq_skp tx 32 i (j - i))))))))), .int (nI j)]) (rest := []) hx hb hml hown hts (c_M_begin l D G A Z h ([.int (nI n), .int kd, .int ru, .ref ya, .int (nI sz), .ref ta, .ref la, .int (nI rg), .int (nI so), .int (hq_z bg), .int (nI nc), .ref lfa, .ref rta, .int (hq_nuM tx (hq_skp tx 32 i (j - i)) (hq_fnd tx 32 (hq_skp tx 32 i (j - i)) (j - (hq_skp tx 32 i (j - i))))), .int ((tx (hq_skp tx 32 (hq_fnd tx 32 (hq_skp tx 32 i (j - i)) (j - (hq_skp tx 32 i (j - i)))) (j - (hq_fnd tx 32 (hq_skp tx 32 i (j - i)) (j - (hq_skp tx 32 i (j - i))))))) - 48), .int (nI ft), .ref fha, .ref fva, .ref fla, .int (nI sp), .int (nI tc), .ref tha, .ref tva, .ref wa, .ref sa, .ref ca, .ref va, .long tt, .int ld, .long pt, .long pw, .int (nI rc), .ref ra, .int wn]) ta tx (hq_fnd tx 32 (hq_skp tx 32 (hq_fnd tx 32 (hq_skp tx 32 i (j - i)) (j - (hq_skp tx 32 i (j - i)))) (j - (hq_fnd tx 32 (hq_skp tx 32 i (j - i)) (j - (hq_skp tx 32 i (j - i)))))) (j - (hq_skp tx 32 (hq_fnd tx 32 (hq_skp tx 32 i (j - i)) (j - (hq_skp tx 32 i (j - i)))) (j - (hq_fnd tx 32 (hq_skp tx 32 i (j - i)) (j - (hq_skp tx 32 i (j - i)))))))) j (by first | assumption | rfl) (by first | assumption | omega) (by first | assumption | omega)) yy_M_begin lk_M_103 hA hK hN hS hPc hDc 0 8 rfl rfl rfl hl.1 rfl (Nat.le_of_ble_eq_true rfl) d_M_head_151 ⟨by decide, by decide⟩ ⟨by decide, by decide⟩) hS (fun H locs hP hD hS => ?_)
                  have hP : va_P D hq_cl ([hq_o8 h (nI n) kd ru ya (nI sz) ta la (nI rg) (nI so) (hq_z bg) (nI nc) lfa rta (hq_nuM tx (hq_skp tx 32 i (j - i)) (hq_fnd tx 32 (hq_skp tx 32 i (j - i)) (j - (hq_skp tx 32 i (j - i))))) ((tx (hq_skp tx 32 (hq_fnd tx 32 (hq_skp tx 32 i (j - i)) (j - (hq_skp tx 32 i (j - i)))) (j - (hq_fnd tx 32 (hq_skp tx 32 i (j - i)) (j - (hq_skp tx 32 i (j - i))))))) - 48) (nI ft) fha fva fla (nI sp) (nI tc) tha tva wa sa ca va tt ld pt pw (nI rc) ra wn, hq_ai ta (G 0) 2000 tx] ++ Z) H := hP
                  have hD : va_D A ([hq_o8 h (nI n) kd ru ya (nI sz) ta la (nI rg) (nI so) (hq_z bg) (nI nc) lfa rta (hq_nuM tx (hq_skp tx 32 i (j - i)) (hq_fnd tx 32 (hq_skp tx 32 i (j - i)) (j - (hq_skp tx 32 i (j - i))))) ((tx (hq_skp tx 32 (hq_fnd tx 32 (hq_skp tx 32 i (j - i)) (j - (hq_skp tx 32 i (j - i)))) (j - (hq_fnd tx 32 (hq_skp tx 32 i (j - i)) (j - (hq_skp tx 32 i (j - i))))))) - 48) (nI ft) fha fva fla (nI sp) (nI tc) tha tva wa sa ca va tt ld pt pw (nI rc) ra wn, hq_ai ta (G 0) 2000 tx] ++ Z) := hD
                  have hp4 := hq_skp_le tx 32 (j - (hq_fnd tx 32 (hq_skp tx 32 (hq_fnd tx 32 (hq_skp tx 32 i (j - i)) (j - (hq_skp tx 32 i (j - i)))) (j - (hq_fnd tx 32 (hq_skp tx 32 i (j - i)) (j - (hq_skp tx 32 i (j - i)))))) (j - (hq_skp tx 32 (hq_fnd tx 32 (hq_skp tx 32 i (j - i)) (j - (hq_skp tx 32 i (j - i)))) (j - (hq_fnd tx 32 (hq_skp tx 32 i (j - i)) (j - (hq_skp tx 32 i (j - i))))))))) (hq_fnd tx 32 (hq_skp tx 32 (hq_fnd tx 32 (hq_skp tx 32 i (j - i)) (j - (hq_skp tx 32 i (j - i)))) (j - (hq_fnd tx 32 (hq_skp tx 32 i (j - i)) (j - (hq_skp tx 32 i (j - i)))))) (j - (hq_skp tx 32 (hq_fnd tx 32 (hq_skp tx 32 i (j - i)) (j - (hq_skp tx 32 i (j - i)))) (j - (hq_fnd tx 32 (hq_skp tx 32 i (j - i)) (j - (hq_skp tx 32 i (j - i))))))))
                  refine lv_iload_n hx hb d_M_head_154 rfl (lv_at hl 7 rfl) ?_
                  refine lv_icmp_ne (tgt := 162) hx hb d_M_head_155 rfl (fun c155 => ?_) (fun c155 => ?_)
                  · -- 155 taken
                    have c155 : ¬ (hq_skp tx 32 (hq_fnd tx 32 (hq_skp tx 32 (hq_fnd tx 32 (hq_skp tx 32 i (j - i)) (j - (hq_skp tx 32 i (j - i)))) (j - (hq_fnd tx 32 (hq_skp tx 32 i (j - i)) (j - (hq_skp tx 32 i (j - i)))))) (j - (hq_skp tx 32 (hq_fnd tx 32 (hq_skp tx 32 i (j - i)) (j - (hq_skp tx 32 i (j - i)))) (j - (hq_fnd tx 32 (hq_skp tx 32 i (j - i)) (j - (hq_skp tx 32 i (j - i)))))))) (j - (hq_fnd tx 32 (hq_skp tx 32 (hq_fnd tx 32 (hq_skp tx 32 i (j - i)) (j - (hq_skp tx 32 i (j - i)))) (j - (hq_fnd tx 32 (hq_skp tx 32 i (j - i)) (j - (hq_skp tx 32 i (j - i)))))) (j - (hq_skp tx 32 (hq_fnd tx 32 (hq_skp tx 32 i (j - i)) (j - (hq_skp tx 32 i (j - i)))) (j - (hq_fnd tx 32 (hq_skp tx 32 i (j - i)) (j - (hq_skp tx 32 i (j - i)))))))))) = j := fun h => c155 ((nI_eq (a := hq_skp tx 32 (hq_fnd tx 32 (hq_skp tx 32 (hq_fnd tx 32 (hq_skp tx 32 i (j - i)) (j - (hq_skp tx 32 i (j - i)))) (j - (hq_fnd tx 32 (hq_skp tx 32 i (j - i)) (j - (hq_skp tx 32 i (j - i)))))) (j - (hq_skp tx 32 (hq_fnd tx 32 (hq_skp tx 32 i (j - i)) (j - (hq_skp tx 32 i (j - i)))) (j - (hq_fnd tx 32 (hq_skp tx 32 i (j - i)) (j - (hq_skp tx 32 i (j - i)))))))) (j - (hq_fnd tx 32 (hq_skp tx 32 (hq_fnd tx 32 (hq_skp tx 32 i (j - i)) (j - (hq_skp tx 32 i (j - i)))) (j - (hq_fnd tx 32 (hq_skp tx 32 i (j - i)) (j - (hq_skp tx 32 i (j - i)))))) (j - (hq_skp tx 32 (hq_fnd tx 32 (hq_skp tx 32 i (j - i)) (j - (hq_skp tx 32 i (j - i)))) (j - (hq_fnd tx 32 (hq_skp tx 32 i (j - i)) (j - (hq_skp tx 32 i (j - i)))))))))) (b := j) (by omega) (by omega)).mpr h)
                    refine lv_iconst (v := 0) hx hb d_M_head_162 (by decide) ?_
                    have hP : va_P D hq_cl ([hq_o8 h (nI n) kd ru ya (nI sz) ta la (nI rg) (nI so) (hq_z bg) (nI nc) lfa rta (f_M_head_o1 tx i j) (f_M_head_o2 tx i j) (nI ft) fha fva fla (nI sp) (nI tc) tha tva wa sa ca va tt ld pt pw (nI rc) ra wn, hq_ai ta (G 0) 2000 tx] ++ Z) H := by rw [show f_M_head_o1 tx i j = hq_nuM tx (hq_skp tx 32 i (j - i)) (hq_fnd tx 32 (hq_skp tx 32 i (j - i)) (j - (hq_skp tx 32 i (j - i)))) by (rw [f_M_head_o1, if_neg c20] <;> rfl), show f_M_head_o2 tx i j = (tx (hq_skp tx 32 (hq_fnd tx 32 (hq_skp tx 32 i (j - i)) (j - (hq_skp tx 32 i (j - i)))) (j - (hq_fnd tx 32 (hq_skp tx 32 i (j - i)) (j - (hq_skp tx 32 i (j - i))))))) - 48 by (rw [f_M_head_o2, if_neg c20, if_neg c65, if_pos c87, if_neg c99, if_neg c111] <;> rfl)]; exact hP
                    have hD : va_D A ([hq_o8 h (nI n) kd ru ya (nI sz) ta la (nI rg) (nI so) (hq_z bg) (nI nc) lfa rta (f_M_head_o1 tx i j) (f_M_head_o2 tx i j) (nI ft) fha fva fla (nI sp) (nI tc) tha tva wa sa ca va tt ld pt pw (nI rc) ra wn, hq_ai ta (G 0) 2000 tx] ++ Z) := by rw [show f_M_head_o1 tx i j = hq_nuM tx (hq_skp tx 32 i (j - i)) (hq_fnd tx 32 (hq_skp tx 32 i (j - i)) (j - (hq_skp tx 32 i (j - i)))) by (rw [f_M_head_o1, if_neg c20] <;> rfl), show f_M_head_o2 tx i j = (tx (hq_skp tx 32 (hq_fnd tx 32 (hq_skp tx 32 i (j - i)) (j - (hq_skp tx 32 i (j - i)))) (j - (hq_fnd tx 32 (hq_skp tx 32 i (j - i)) (j - (hq_skp tx 32 i (j - i))))))) - 48 by (rw [f_M_head_o2, if_neg c20, if_neg c65, if_pos c87, if_neg c99, if_neg c111] <;> rfl)]; exact hD
                    exact hret 0 () H locs 163 ls d_M_head_163 (by rw [f_M_head, if_neg c20, if_neg c65, if_pos c87, if_neg c99, if_neg c111, if_neg c137, if_neg c144, if_neg c155] <;> rfl) hP hD hS
                  · -- 155 not taken
                    have c155 : (hq_skp tx 32 (hq_fnd tx 32 (hq_skp tx 32 (hq_fnd tx 32 (hq_skp tx 32 i (j - i)) (j - (hq_skp tx 32 i (j - i)))) (j - (hq_fnd tx 32 (hq_skp tx 32 i (j - i)) (j - (hq_skp tx 32 i (j - i)))))) (j - (hq_skp tx 32 (hq_fnd tx 32 (hq_skp tx 32 i (j - i)) (j - (hq_skp tx 32 i (j - i)))) (j - (hq_fnd tx 32 (hq_skp tx 32 i (j - i)) (j - (hq_skp tx 32 i (j - i)))))))) (j - (hq_fnd tx 32 (hq_skp tx 32 (hq_fnd tx 32 (hq_skp tx 32 i (j - i)) (j - (hq_skp tx 32 i (j - i)))) (j - (hq_fnd tx 32 (hq_skp tx 32 i (j - i)) (j - (hq_skp tx 32 i (j - i)))))) (j - (hq_skp tx 32 (hq_fnd tx 32 (hq_skp tx 32 i (j - i)) (j - (hq_skp tx 32 i (j - i)))) (j - (hq_fnd tx 32 (hq_skp tx 32 i (j - i)) (j - (hq_skp tx 32 i (j - i)))))))))) = j := (nI_eq (a := hq_skp tx 32 (hq_fnd tx 32 (hq_skp tx 32 (hq_fnd tx 32 (hq_skp tx 32 i (j - i)) (j - (hq_skp tx 32 i (j - i)))) (j - (hq_fnd tx 32 (hq_skp tx 32 i (j - i)) (j - (hq_skp tx 32 i (j - i)))))) (j - (hq_skp tx 32 (hq_fnd tx 32 (hq_skp tx 32 i (j - i)) (j - (hq_skp tx 32 i (j - i)))) (j - (hq_fnd tx 32 (hq_skp tx 32 i (j - i)) (j - (hq_skp tx 32 i (j - i)))))))) (j - (hq_fnd tx 32 (hq_skp tx 32 (hq_fnd tx 32 (hq_skp tx 32 i (j - i)) (j - (hq_skp tx 32 i (j - i)))) (j - (hq_fnd tx 32 (hq_skp tx 32 i (j - i)) (j - (hq_skp tx 32 i (j - i)))))) (j - (hq_skp tx 32 (hq_fnd tx 32 (hq_skp tx 32 i (j - i)) (j - (hq_skp tx 32 i (j - i)))) (j - (hq_fnd tx 32 (hq_skp tx 32 i (j - i)) (j - (hq_skp tx 32 i (j - i)))))))))) (b := j) (by omega) (by omega)).mp c155
                    refine lv_iconst (v := 1) hx hb d_M_head_158 (by decide) ?_
                    refine lv_goto (tgt := 163) hx hb d_M_head_159 rfl ?_
                    have hP : va_P D hq_cl ([hq_o8 h (nI n) kd ru ya (nI sz) ta la (nI rg) (nI so) (hq_z bg) (nI nc) lfa rta (f_M_head_o1 tx i j) (f_M_head_o2 tx i j) (nI ft) fha fva fla (nI sp) (nI tc) tha tva wa sa ca va tt ld pt pw (nI rc) ra wn, hq_ai ta (G 0) 2000 tx] ++ Z) H := by rw [show f_M_head_o1 tx i j = hq_nuM tx (hq_skp tx 32 i (j - i)) (hq_fnd tx 32 (hq_skp tx 32 i (j - i)) (j - (hq_skp tx 32 i (j - i)))) by (rw [f_M_head_o1, if_neg c20] <;> rfl), show f_M_head_o2 tx i j = (tx (hq_skp tx 32 (hq_fnd tx 32 (hq_skp tx 32 i (j - i)) (j - (hq_skp tx 32 i (j - i)))) (j - (hq_fnd tx 32 (hq_skp tx 32 i (j - i)) (j - (hq_skp tx 32 i (j - i))))))) - 48 by (rw [f_M_head_o2, if_neg c20, if_neg c65, if_pos c87, if_neg c99, if_neg c111] <;> rfl)]; exact hP
                    have hD : va_D A ([hq_o8 h (nI n) kd ru ya (nI sz) ta la (nI rg) (nI so) (hq_z bg) (nI nc) lfa rta (f_M_head_o1 tx i j) (f_M_head_o2 tx i j) (nI ft) fha fva fla (nI sp) (nI tc) tha tva wa sa ca va tt ld pt pw (nI rc) ra wn, hq_ai ta (G 0) 2000 tx] ++ Z) := by rw [show f_M_head_o1 tx i j = hq_nuM tx (hq_skp tx 32 i (j - i)) (hq_fnd tx 32 (hq_skp tx 32 i (j - i)) (j - (hq_skp tx 32 i (j - i)))) by (rw [f_M_head_o1, if_neg c20] <;> rfl), show f_M_head_o2 tx i j = (tx (hq_skp tx 32 (hq_fnd tx 32 (hq_skp tx 32 i (j - i)) (j - (hq_skp tx 32 i (j - i)))) (j - (hq_fnd tx 32 (hq_skp tx 32 i (j - i)) (j - (hq_skp tx 32 i (j - i))))))) - 48 by (rw [f_M_head_o2, if_neg c20, if_neg c65, if_pos c87, if_neg c99, if_neg c111] <;> rfl)]; exact hD
                    exact hret 1 () H locs 163 ls d_M_head_163 (by rw [f_M_head, if_neg c20, if_neg c65, if_pos c87, if_neg c99, if_neg c111, if_neg c137, if_neg c144, if_pos c155] <;> rfl) hP hD hS
  · -- 20 not taken
    have c20 : (hq_skp tx 32 i (j - i)) = j := (nI_eq (a := hq_skp tx 32 i (j - i)) (b := j) (by omega) (by omega)).mp c20
    refine lv_iconst (v := 1) hx hb d_M_head_23 (by decide) ?_
    have hP : va_P D hq_cl ([hq_o8 h (nI n) kd ru ya (nI sz) ta la (nI rg) (nI so) (hq_z bg) (nI nc) lfa rta (f_M_head_o1 tx i j) (f_M_head_o2 tx i j) (nI ft) fha fva fla (nI sp) (nI tc) tha tva wa sa ca va tt ld pt pw (nI rc) ra wn, hq_ai ta (G 0) 2000 tx] ++ Z) H := by rw [show f_M_head_o1 tx i j = 1000000 by (rw [f_M_head_o1, if_pos c20] <;> rfl), show f_M_head_o2 tx i j = 1 by (rw [f_M_head_o2, if_pos c20] <;> rfl)]; exact hP
    have hD : va_D A ([hq_o8 h (nI n) kd ru ya (nI sz) ta la (nI rg) (nI so) (hq_z bg) (nI nc) lfa rta (f_M_head_o1 tx i j) (f_M_head_o2 tx i j) (nI ft) fha fva fla (nI sp) (nI tc) tha tva wa sa ca va tt ld pt pw (nI rc) ra wn, hq_ai ta (G 0) 2000 tx] ++ Z) := by rw [show f_M_head_o1 tx i j = 1000000 by (rw [f_M_head_o1, if_pos c20] <;> rfl), show f_M_head_o2 tx i j = 1 by (rw [f_M_head_o2, if_pos c20] <;> rfl)]; exact hD
    exact hret 1 () H locs 24 ls d_M_head_24 (by rw [f_M_head, if_pos c20] <;> rfl) hP hD hS
theorem d_M_term_0 : decode b_M_term 0 = .ok (.aload_n 0, 1) := by decide +kernel
theorem d_M_term_1 : decode b_M_term 1 = .ok (.getfield 34, 3) := by decide +kernel
theorem d_M_term_4 : decode b_M_term 4 = .ok (.aload_n 0, 1) := by decide +kernel
theorem d_M_term_5 : decode b_M_term 5 = .ok (.getfield 161, 3) := by decide +kernel
theorem d_M_term_8 : decode b_M_term 8 = .ok (.iload_n 1, 1) := by decide +kernel
theorem d_M_term_9 : decode b_M_term 9 = .ok (.iastore, 1) := by decide +kernel
theorem d_M_term_10 : decode b_M_term 10 = .ok (.aload_n 0, 1) := by decide +kernel
theorem d_M_term_11 : decode b_M_term 11 = .ok (.getfield 37, 3) := by decide +kernel
theorem d_M_term_14 : decode b_M_term 14 = .ok (.aload_n 0, 1) := by decide +kernel
theorem d_M_term_15 : decode b_M_term 15 = .ok (.getfield 161, 3) := by decide +kernel
theorem d_M_term_18 : decode b_M_term 18 = .ok (.lload_n 2, 1) := by decide +kernel
theorem d_M_term_19 : decode b_M_term 19 = .ok (.ldc2_w 130, 3) := by decide +kernel
theorem d_M_term_22 : decode b_M_term 22 = .ok (.invokestatic 132, 3) := by decide +kernel
theorem d_M_term_25 : decode b_M_term 25 = .ok (.l2i, 1) := by decide +kernel
theorem d_M_term_26 : decode b_M_term 26 = .ok (.iastore, 1) := by decide +kernel
theorem d_M_term_27 : decode b_M_term 27 = .ok (.aload_n 0, 1) := by decide +kernel
theorem d_M_term_28 : decode b_M_term 28 = .ok (.dup, 1) := by decide +kernel
theorem d_M_term_29 : decode b_M_term 29 = .ok (.getfield 161, 3) := by decide +kernel
theorem d_M_term_32 : decode b_M_term 32 = .ok (.iconst 1, 1) := by decide +kernel
theorem d_M_term_33 : decode b_M_term 33 = .ok (.iadd, 1) := by decide +kernel
theorem d_M_term_34 : decode b_M_term 34 = .ok (.putfield 161, 3) := by decide +kernel
theorem d_M_term_37 : decode b_M_term 37 = .ok (.return_, 1) := by decide +kernel
set_option maxHeartbeats 4000000 in
set_option maxRecDepth 100000 in
theorem c_M_term (l : Launch) (D : va_G) (G : Nat → ClassId) (A : Nat → Prop) (Z : va_W) (h : Nat) (n : Nat) (kd : Int32) (ru : Int32) (ya : Nat) (sz : Nat) (ta : Nat) (la : Nat) (rg : Nat) (so : Nat) (bg : Bool) (nc : Nat) (lfa : Nat) (rta : Nat) (lb : Int32) (wo : Int32) (ft : Nat) (fha : Nat) (fva : Nat) (fla : Nat) (sp : Nat) (tc : Nat) (tha : Nat) (tva : Nat) (wa : Nat) (sa : Nat) (ca : Nat) (va : Nat) (tt : Int64) (ld : Int32) (pt : Int64) (pw : Int64) (rc : Nat) (ra : Nat) (wn : Int32) (th : Nat → Int32) (tv : Nat → Int32) (x : Int32) (v : Int64) (htc : tc < 120) : hq_FV l D G A y_M_term b_M_term 4 1 [.ref h, .int x, .long v] ([hq_o8 h (nI n) kd ru ya (nI sz) ta la (nI rg) (nI so) (hq_z bg) (nI nc) lfa rta lb wo (nI ft) fha fva fla (nI sp) (nI tc) tha tva wa sa ca va tt ld pt pw (nI rc) ra wn, hq_ai tha (G 0) 120 th, hq_ai tva (G 0) 120 tv] ++ Z) ([hq_o8 h (nI n) kd ru ya (nI sz) ta la (nI rg) (nI so) (hq_z bg) (nI nc) lfa rta lb wo (nI ft) fha fva fla (nI sp) (nI (tc + 1)) tha tva wa sa ca va tt ld pt pw (nI rc) ra wn, hq_ai tha (G 0) 120 (upd th tc x), hq_ai tva (G 0) 120 (upd tv tc (Int64.toInt32 (f_M_clip v 99999)))] ++ Z) := by
  refine hq_bV (by decide) (Nat.le_of_ble_eq_true rfl) ?_
  intro p e s m args below meth c Q hx hb hml hts hown hA hK hN hin hret ls H locs hl hP hD hS
  have hown : s.vm.findClass "HashedLearnerModel" = some m.cls := hown
  have hl : lv_has ls 4 [(0, .ref h), (1, .int x), (2, .long v)] := hl
  refine lv_aload_n hx hb d_M_term_0 rfl (lv_at hl 0 rfl) ?_
  refine va_get (D := D) (ci := 8) (v := .ref tha) (C := R_M) (T := F_M) (N := 34) hx hb hts uw_M hown hK hP 0 rfl rfl 21 (by decide) (hts _ fl_M_34) (fun _ h9 => h9) rfl d_M_term_1 ?_
  refine lv_aload_n hx hb d_M_term_4 rfl (lv_at hl 0 rfl) ?_
  refine va_get (D := D) (ci := 8) (v := .int (nI tc)) (C := R_M) (T := F_M) (N := 34) hx hb hts uw_M hown hK hP 0 rfl rfl 20 (by decide) (hts _ fl_M_161) (fun _ h9 => h9) rfl d_M_term_5 ?_
  refine lv_iload_n hx hb d_M_term_8 rfl (lv_at hl 1 rfl) ?_
  refine hq_iast (j := tc) hx hb hK hP hD hS 1 rfl (by omega) (by omega) d_M_term_9 (fun H locs hP hD hS => ?_)
  have hP : va_P D hq_cl ([hq_o8 h (nI n) kd ru ya (nI sz) ta la (nI rg) (nI so) (hq_z bg) (nI nc) lfa rta lb wo (nI ft) fha fva fla (nI sp) (nI tc) tha tva wa sa ca va tt ld pt pw (nI rc) ra wn, hq_ai tha (G 0) 120 (upd th tc x), hq_ai tva (G 0) 120 tv] ++ Z) H := hP
  have hD : va_D A ([hq_o8 h (nI n) kd ru ya (nI sz) ta la (nI rg) (nI so) (hq_z bg) (nI nc) lfa rta lb wo (nI ft) fha fva fla (nI sp) (nI tc) tha tva wa sa ca va tt ld pt pw (nI rc) ra wn, hq_ai tha (G 0) 120 (upd th tc x), hq_ai tva (G 0) 120 tv] ++ Z) := hD
  refine lv_aload_n hx hb d_M_term_10 rfl (lv_at hl 0 rfl) ?_
  refine va_get (D := D) (ci := 8) (v := .ref tva) (C := R_M) (T := F_M) (N := 34) hx hb hts uw_M hown hK hP 0 rfl rfl 22 (by decide) (hts _ fl_M_37) (fun _ h9 => h9) rfl d_M_term_11 ?_
  refine lv_aload_n hx hb d_M_term_14 rfl (lv_at hl 0 rfl) ?_
  refine va_get (D := D) (ci := 8) (v := .int (nI tc)) (C := R_M) (T := F_M) (N := 34) hx hb hts uw_M hown hK hP 0 rfl rfl 20 (by decide) (hts _ fl_M_161) (fun _ h9 => h9) rfl d_M_term_15 ?_
  refine lv_lload_n hx hb d_M_term_18 rfl (lv_at hl 2 rfl) ?_
  refine lv_ldc2 (v := 99999) hx hb hown (hts _ kl_M_130) d_M_term_19 ?_
  have hPc : va_P D hq_cl ([] ++ ([hq_o8 h (nI n) kd ru ya (nI sz) ta la (nI rg) (nI so) (hq_z bg) (nI nc) lfa rta lb wo (nI ft) fha fva fla (nI sp) (nI tc) tha tva wa sa ca va tt ld pt pw (nI rc) ra wn, hq_ai tha (G 0) 120 (upd th tc x), hq_ai tva (G 0) 120 tv] ++ Z)) H := hP
  have hDc : va_D A ([] ++ ([hq_o8 h (nI n) kd ru ya (nI sz) ta la (nI rg) (nI so) (hq_z bg) (nI nc) lfa rta lb wo (nI ft) fha fva fla (nI sp) (nI tc) tha tva wa sa ca va tt ld pt pw (nI rc) ra wn, hq_ai tha (G 0) 120 (upd th tc x), hq_ai tva (G 0) 120 tv] ++ Z)) := hD
  refine hq_lF (hq_rS (As := [.long v, .long 99999]) (rest := [.int (nI tc), .ref tva]) hx hb hml hown hts (c_M_clip l D G A ([hq_o8 h (nI n) kd ru ya (nI sz) ta la (nI rg) (nI so) (hq_z bg) (nI nc) lfa rta lb wo (nI ft) fha fva fla (nI sp) (nI tc) tha tva wa sa ca va tt ld pt pw (nI rc) ra wn, hq_ai tha (G 0) 120 (upd th tc x), hq_ai tva (G 0) 120 tv] ++ Z) v 99999) yy_M_clip lk_M_132 hA hK hN hS hPc hDc rfl hl.1 rfl (Nat.le_of_ble_eq_true rfl) d_M_term_22 ⟨by decide, by decide⟩ ⟨by decide, by decide⟩) hS (fun H locs hP hD hS => ?_)
  have hP : va_P D hq_cl ([hq_o8 h (nI n) kd ru ya (nI sz) ta la (nI rg) (nI so) (hq_z bg) (nI nc) lfa rta lb wo (nI ft) fha fva fla (nI sp) (nI tc) tha tva wa sa ca va tt ld pt pw (nI rc) ra wn, hq_ai tha (G 0) 120 (upd th tc x), hq_ai tva (G 0) 120 tv] ++ Z) H := hP
  have hD : va_D A ([hq_o8 h (nI n) kd ru ya (nI sz) ta la (nI rg) (nI so) (hq_z bg) (nI nc) lfa rta lb wo (nI ft) fha fva fla (nI sp) (nI tc) tha tva wa sa ca va tt ld pt pw (nI rc) ra wn, hq_ai tha (G 0) 120 (upd th tc x), hq_ai tva (G 0) 120 tv] ++ Z) := hD
  refine lv_l2i (v := Int64.toInt32 (f_M_clip v 99999)) hx hb d_M_term_25 rfl ?_
  refine hq_iast (j := tc) hx hb hK hP hD hS 2 rfl (by omega) (by omega) d_M_term_26 (fun H locs hP hD hS => ?_)
  have hP : va_P D hq_cl ([hq_o8 h (nI n) kd ru ya (nI sz) ta la (nI rg) (nI so) (hq_z bg) (nI nc) lfa rta lb wo (nI ft) fha fva fla (nI sp) (nI tc) tha tva wa sa ca va tt ld pt pw (nI rc) ra wn, hq_ai tha (G 0) 120 (upd th tc x), hq_ai tva (G 0) 120 (upd tv tc (Int64.toInt32 (f_M_clip v 99999)))] ++ Z) H := hP
  have hD : va_D A ([hq_o8 h (nI n) kd ru ya (nI sz) ta la (nI rg) (nI so) (hq_z bg) (nI nc) lfa rta lb wo (nI ft) fha fva fla (nI sp) (nI tc) tha tva wa sa ca va tt ld pt pw (nI rc) ra wn, hq_ai tha (G 0) 120 (upd th tc x), hq_ai tva (G 0) 120 (upd tv tc (Int64.toInt32 (f_M_clip v 99999)))] ++ Z) := hD
  refine lv_aload_n hx hb d_M_term_27 rfl (lv_at hl 0 rfl) ?_
  refine lv_dup hx hb d_M_term_28 rfl ?_
  refine va_get (D := D) (ci := 8) (v := .int (nI tc)) (C := R_M) (T := F_M) (N := 34) hx hb hts uw_M hown hK hP 0 rfl rfl 20 (by decide) (hts _ fl_M_161) (fun _ h9 => h9) rfl d_M_term_29 ?_
  refine lv_iconst (v := 1) hx hb d_M_term_32 (by decide) ?_
  refine lv_iadd hx hb d_M_term_33 ?_
  refine hq_topi (x' := nI (tc + 1)) (nI_add tc 1) ?_
  refine va_put (D := D) (ci := 8) (v := .int (nI (tc + 1))) (ty := .int) (C := R_M) (T := F_M) (N := 34) hx hb hts uw_M t_M t_M_ok n_M hown hK hP hD hS 0 rfl rfl 20 (by decide) (hts _ fl_M_161) (fun _ h9 => h9) rfl (by decide +kernel) (rfl) (rfl) (Nat.le_of_ble_eq_true rfl) d_M_term_34 (fun H locs hP hD hS => ?_)
  have hP : va_P D hq_cl ([hq_o8 h (nI n) kd ru ya (nI sz) ta la (nI rg) (nI so) (hq_z bg) (nI nc) lfa rta lb wo (nI ft) fha fva fla (nI sp) (nI (tc + 1)) tha tva wa sa ca va tt ld pt pw (nI rc) ra wn, hq_ai tha (G 0) 120 (upd th tc x), hq_ai tva (G 0) 120 (upd tv tc (Int64.toInt32 (f_M_clip v 99999)))] ++ Z) H := hP
  have hD : va_D A ([hq_o8 h (nI n) kd ru ya (nI sz) ta la (nI rg) (nI so) (hq_z bg) (nI nc) lfa rta lb wo (nI ft) fha fva fla (nI sp) (nI (tc + 1)) tha tva wa sa ca va tt ld pt pw (nI rc) ra wn, hq_ai tha (G 0) 120 (upd th tc x), hq_ai tva (G 0) 120 (upd tv tc (Int64.toInt32 (f_M_clip v 99999)))] ++ Z) := hD
  exact hret () H locs 37 ls d_M_term_37 (trivial) hP hD hS
