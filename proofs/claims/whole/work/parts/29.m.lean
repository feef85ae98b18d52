theorem d_M_namespace_0 : decode b_M_namespace 0 = .ok (.iload_n 1, 1) := by decide +kernel
theorem d_M_namespace_1 : decode b_M_namespace 1 = .ok (.iload_n 2, 1) := by decide +kernel
theorem d_M_namespace_2 : decode b_M_namespace 2 = .ok (.if_icmp .ge (18), 3) := by decide +kernel
theorem d_M_namespace_5 : decode b_M_namespace 5 = .ok (.aload_n 0, 1) := by decide +kernel
theorem d_M_namespace_6 : decode b_M_namespace 6 = .ok (.getfield 13, 3) := by decide +kernel
theorem d_M_namespace_9 : decode b_M_namespace 9 = .ok (.iload_n 1, 1) := by decide +kernel
theorem d_M_namespace_10 : decode b_M_namespace 10 = .ok (.iaload, 1) := by decide +kernel
theorem d_M_namespace_11 : decode b_M_namespace 11 = .ok (.bipush (32), 2) := by decide +kernel
theorem d_M_namespace_13 : decode b_M_namespace 13 = .ok (.if_icmp .eq (7), 3) := by decide +kernel
theorem d_M_namespace_16 : decode b_M_namespace 16 = .ok (.iconst 1, 1) := by decide +kernel
theorem d_M_namespace_17 : decode b_M_namespace 17 = .ok (.goto (4), 3) := by decide +kernel
theorem d_M_namespace_20 : decode b_M_namespace 20 = .ok (.iconst 0, 1) := by decide +kernel
theorem d_M_namespace_21 : decode b_M_namespace 21 = .ok (.istore_n 3, 1) := by decide +kernel
theorem d_M_namespace_22 : decode b_M_namespace 22 = .ok (.iconst 0, 1) := by decide +kernel
theorem d_M_namespace_23 : decode b_M_namespace 23 = .ok (.istore 4, 2) := by decide +kernel
theorem d_M_namespace_25 : decode b_M_namespace 25 = .ok (.bipush (32), 2) := by decide +kernel
theorem d_M_namespace_27 : decode b_M_namespace 27 = .ok (.istore 5, 2) := by decide +kernel
theorem d_M_namespace_29 : decode b_M_namespace 29 = .ok (.bipush (100), 2) := by decide +kernel
theorem d_M_namespace_31 : decode b_M_namespace 31 = .ok (.istore 6, 2) := by decide +kernel
theorem d_M_namespace_33 : decode b_M_namespace 33 = .ok (.iload_n 3, 1) := by decide +kernel
theorem d_M_namespace_34 : decode b_M_namespace 34 = .ok (.istore 7, 2) := by decide +kernel
theorem d_M_namespace_36 : decode b_M_namespace 36 = .ok (.aload_n 0, 1) := by decide +kernel
theorem d_M_namespace_37 : decode b_M_namespace 37 = .ok (.iload_n 1, 1) := by decide +kernel
theorem d_M_namespace_38 : decode b_M_namespace 38 = .ok (.iload_n 2, 1) := by decide +kernel
theorem d_M_namespace_39 : decode b_M_namespace 39 = .ok (.invokevirtual 103, 3) := by decide +kernel
theorem d_M_namespace_42 : decode b_M_namespace 42 = .ok (.istore 8, 2) := by decide +kernel
theorem d_M_namespace_44 : decode b_M_namespace 44 = .ok (.iload 8, 2) := by decide +kernel
theorem d_M_namespace_46 : decode b_M_namespace 46 = .ok (.iload_n 2, 1) := by decide +kernel
theorem d_M_namespace_47 : decode b_M_namespace 47 = .ok (.if_icmp .ge (169), 3) := by decide +kernel
theorem d_M_namespace_50 : decode b_M_namespace 50 = .ok (.aload_n 0, 1) := by decide +kernel
theorem d_M_namespace_51 : decode b_M_namespace 51 = .ok (.iload 8, 2) := by decide +kernel
theorem d_M_namespace_53 : decode b_M_namespace 53 = .ok (.iload_n 2, 1) := by decide +kernel
theorem d_M_namespace_54 : decode b_M_namespace 54 = .ok (.invokevirtual 106, 3) := by decide +kernel
theorem d_M_namespace_57 : decode b_M_namespace 57 = .ok (.istore 9, 2) := by decide +kernel
theorem d_M_namespace_59 : decode b_M_namespace 59 = .ok (.aload_n 0, 1) := by decide +kernel
theorem d_M_namespace_60 : decode b_M_namespace 60 = .ok (.iload 8, 2) := by decide +kernel
theorem d_M_namespace_62 : decode b_M_namespace 62 = .ok (.iload 9, 2) := by decide +kernel
theorem d_M_namespace_64 : decode b_M_namespace 64 = .ok (.invokevirtual 116, 3) := by decide +kernel
theorem d_M_namespace_67 : decode b_M_namespace 67 = .ok (.istore 10, 2) := by decide +kernel
theorem d_M_namespace_69 : decode b_M_namespace 69 = .ok (.iload 10, 2) := by decide +kernel
theorem d_M_namespace_71 : decode b_M_namespace 71 = .ok (.ifCond .lt (17), 3) := by decide +kernel
theorem d_M_namespace_74 : decode b_M_namespace 74 = .ok (.iload 7, 2) := by decide +kernel
theorem d_M_namespace_76 : decode b_M_namespace 76 = .ok (.ifCond .ne (14), 3) := by decide +kernel
theorem d_M_namespace_79 : decode b_M_namespace 79 = .ok (.aload_n 0, 1) := by decide +kernel
theorem d_M_namespace_80 : decode b_M_namespace 80 = .ok (.getfield 119, 3) := by decide +kernel
theorem d_M_namespace_83 : decode b_M_namespace 83 = .ok (.bipush (12), 2) := by decide +kernel
theorem d_M_namespace_85 : decode b_M_namespace 85 = .ok (.if_icmp .lt (5), 3) := by decide +kernel
theorem d_M_namespace_88 : decode b_M_namespace 88 = .ok (.iconst 0, 1) := by decide +kernel
theorem d_M_namespace_89 : decode b_M_namespace 89 = .ok (.ireturn, 1) := by decide +kernel
theorem d_M_namespace_90 : decode b_M_namespace 90 = .ok (.iload 7, 2) := by decide +kernel
theorem d_M_namespace_92 : decode b_M_namespace 92 = .ok (.ifCond .eq (36), 3) := by decide +kernel
theorem d_M_namespace_95 : decode b_M_namespace 95 = .ok (.aload_n 0, 1) := by decide +kernel
theorem d_M_namespace_96 : decode b_M_namespace 96 = .ok (.iload 8, 2) := by decide +kernel
theorem d_M_namespace_98 : decode b_M_namespace 98 = .ok (.iload 10, 2) := by decide +kernel
theorem d_M_namespace_100 : decode b_M_namespace 100 = .ok (.iconst 0, 1) := by decide +kernel
theorem d_M_namespace_101 : decode b_M_namespace 101 = .ok (.invokevirtual 122, 3) := by decide +kernel
theorem d_M_namespace_104 : decode b_M_namespace 104 = .ok (.istore 4, 2) := by decide +kernel
theorem d_M_namespace_106 : decode b_M_namespace 106 = .ok (.aload_n 0, 1) := by decide +kernel
theorem d_M_namespace_107 : decode b_M_namespace 107 = .ok (.getfield 13, 3) := by decide +kernel
theorem d_M_namespace_110 : decode b_M_namespace 110 = .ok (.iload 8, 2) := by decide +kernel
theorem d_M_namespace_112 : decode b_M_namespace 112 = .ok (.iaload, 1) := by decide +kernel
theorem d_M_namespace_113 : decode b_M_namespace 113 = .ok (.istore 5, 2) := by decide +kernel
theorem d_M_namespace_115 : decode b_M_namespace 115 = .ok (.aload_n 0, 1) := by decide +kernel
theorem d_M_namespace_116 : decode b_M_namespace 116 = .ok (.iload 8, 2) := by decide +kernel
theorem d_M_namespace_118 : decode b_M_namespace 118 = .ok (.iload 9, 2) := by decide +kernel
theorem d_M_namespace_120 : decode b_M_namespace 120 = .ok (.invokevirtual 125, 3) := by decide +kernel
theorem d_M_namespace_123 : decode b_M_namespace 123 = .ok (.istore 6, 2) := by decide +kernel
theorem d_M_namespace_125 : decode b_M_namespace 125 = .ok (.goto (76), 3) := by decide +kernel
theorem d_M_namespace_128 : decode b_M_namespace 128 = .ok (.aload_n 0, 1) := by decide +kernel
theorem d_M_namespace_129 : decode b_M_namespace 129 = .ok (.getfield 25, 3) := by decide +kernel
theorem d_M_namespace_132 : decode b_M_namespace 132 = .ok (.aload_n 0, 1) := by decide +kernel
theorem d_M_namespace_133 : decode b_M_namespace 133 = .ok (.getfield 119, 3) := by decide +kernel
theorem d_M_namespace_136 : decode b_M_namespace 136 = .ok (.aload_n 0, 1) := by decide +kernel
theorem d_M_namespace_137 : decode b_M_namespace 137 = .ok (.iload 8, 2) := by decide +kernel
theorem d_M_namespace_139 : decode b_M_namespace 139 = .ok (.iload 10, 2) := by decide +kernel
theorem d_M_namespace_141 : decode b_M_namespace 141 = .ok (.iload 4, 2) := by decide +kernel
theorem d_M_namespace_143 : decode b_M_namespace 143 = .ok (.invokevirtual 122, 3) := by decide +kernel
theorem d_M_namespace_146 : decode b_M_namespace 146 = .ok (.iastore, 1) := by decide +kernel
theorem d_M_namespace_147 : decode b_M_namespace 147 = .ok (.aload_n 0, 1) := by decide +kernel
theorem d_M_namespace_148 : decode b_M_namespace 148 = .ok (.getfield 31, 3) := by decide +kernel
theorem d_M_namespace_151 : decode b_M_namespace 151 = .ok (.aload_n 0, 1) := by decide +kernel
theorem d_M_namespace_152 : decode b_M_namespace 152 = .ok (.getfield 119, 3) := by decide +kernel
theorem d_M_namespace_155 : decode b_M_namespace 155 = .ok (.iload 5, 2) := by decide +kernel
theorem d_M_namespace_157 : decode b_M_namespace 157 = .ok (.iastore, 1) := by decide +kernel
theorem d_M_namespace_158 : decode b_M_namespace 158 = .ok (.aload_n 0, 1) := by decide +kernel
theorem d_M_namespace_159 : decode b_M_namespace 159 = .ok (.getfield 28, 3) := by decide +kernel
theorem d_M_namespace_162 : decode b_M_namespace 162 = .ok (.aload_n 0, 1) := by decide +kernel
theorem d_M_namespace_163 : decode b_M_namespace 163 = .ok (.getfield 119, 3) := by decide +kernel
theorem d_M_namespace_166 : decode b_M_namespace 166 = .ok (.aload_n 0, 1) := by decide +kernel
theorem d_M_namespace_167 : decode b_M_namespace 167 = .ok (.iload 8, 2) := by decide +kernel
theorem d_M_namespace_169 : decode b_M_namespace 169 = .ok (.iload 9, 2) := by decide +kernel
theorem d_M_namespace_171 : decode b_M_namespace 171 = .ok (.invokevirtual 125, 3) := by decide +kernel
theorem d_M_namespace_174 : decode b_M_namespace 174 = .ok (.i2l, 1) := by decide +kernel
theorem d_M_namespace_175 : decode b_M_namespace 175 = .ok (.iload 6, 2) := by decide +kernel
theorem d_M_namespace_177 : decode b_M_namespace 177 = .ok (.i2l, 1) := by decide +kernel
theorem d_M_namespace_178 : decode b_M_namespace 178 = .ok (.lmul, 1) := by decide +kernel
theorem d_M_namespace_179 : decode b_M_namespace 179 = .ok (.ldc2_w 128, 3) := by decide +kernel
theorem d_M_namespace_182 : decode b_M_namespace 182 = .ok (.ldiv, 1) := by decide +kernel
theorem d_M_namespace_183 : decode b_M_namespace 183 = .ok (.ldc2_w 130, 3) := by decide +kernel
theorem d_M_namespace_186 : decode b_M_namespace 186 = .ok (.invokestatic 132, 3) := by decide +kernel
theorem d_M_namespace_189 : decode b_M_namespace 189 = .ok (.l2i, 1) := by decide +kernel
theorem d_M_namespace_190 : decode b_M_namespace 190 = .ok (.iastore, 1) := by decide +kernel
theorem d_M_namespace_191 : decode b_M_namespace 191 = .ok (.aload_n 0, 1) := by decide +kernel
theorem d_M_namespace_192 : decode b_M_namespace 192 = .ok (.dup, 1) := by decide +kernel
theorem d_M_namespace_193 : decode b_M_namespace 193 = .ok (.getfield 119, 3) := by decide +kernel
theorem d_M_namespace_196 : decode b_M_namespace 196 = .ok (.iconst 1, 1) := by decide +kernel
theorem d_M_namespace_197 : decode b_M_namespace 197 = .ok (.iadd, 1) := by decide +kernel
theorem d_M_namespace_198 : decode b_M_namespace 198 = .ok (.putfield 119, 3) := by decide +kernel
theorem d_M_namespace_201 : decode b_M_namespace 201 = .ok (.iconst 0, 1) := by decide +kernel
theorem d_M_namespace_202 : decode b_M_namespace 202 = .ok (.istore 7, 2) := by decide +kernel
theorem d_M_namespace_204 : decode b_M_namespace 204 = .ok (.aload_n 0, 1) := by decide +kernel
theorem d_M_namespace_205 : decode b_M_namespace 205 = .ok (.iload 9, 2) := by decide +kernel
theorem d_M_namespace_207 : decode b_M_namespace 207 = .ok (.iload_n 2, 1) := by decide +kernel
theorem d_M_namespace_208 : decode b_M_namespace 208 = .ok (.invokevirtual 103, 3) := by decide +kernel
theorem d_M_namespace_211 : decode b_M_namespace 211 = .ok (.istore 8, 2) := by decide +kernel
theorem d_M_namespace_213 : decode b_M_namespace 213 = .ok (.goto (-169), 3) := by decide +kernel
theorem d_M_namespace_216 : decode b_M_namespace 216 = .ok (.iconst 1, 1) := by decide +kernel
theorem d_M_namespace_217 : decode b_M_namespace 217 = .ok (.ireturn, 1) := by decide +kernel
set_option maxHeartbeats 4000000 in
set_option maxRecDepth 100000 in
theorem c_M_namespace (l : Launch) (D : va_G) (G : Nat → ClassId) (A : Nat → Prop) (Z : va_W) (h : Nat) (n : Nat) (kd : Int32) (ru : Int32) (ya : Nat) (sz : Nat) (ta : Nat) (la : Nat) (rg : Nat) (so : Nat) (bg : Bool) (nc : Nat) (lfa : Nat) (rta : Nat) (lb : Int32) (wo : Int32) (ft : Nat) (fha : Nat) (fva : Nat) (fla : Nat) (sp : Nat) (tc : Nat) (tha : Nat) (tva : Nat) (wa : Nat) (sa : Nat) (ca : Nat) (va : Nat) (tt : Int64) (ld : Int32) (pt : Int64) (pw : Int64) (rc : Nat) (ra : Nat) (wn : Int32) (tx : Nat → Int32) (fh : Nat → Int32) (fv : Nat → Int32) (fl : Nat → Int32) (i : Nat) (j : Nat) (Lf : List (Int32 × Int32 × Int32)) (hj : j ≤ 2000) (hi : i ≤ j) (hk : ft ≤ 12) (hrep : hq_rep Lf fh fv fl ft) : hq_MI l D G A y_M_namespace b_M_namespace 11 .boolean 4 0 0 [.ref h, .int (nI i), .int (nI j)] ([hq_o8 h (nI n) kd ru ya (nI sz) ta la (nI rg) (nI so) (hq_z bg) (nI nc) lfa rta lb wo (nI ft) fha fva fla (nI sp) (nI tc) tha tva wa sa ca va tt ld pt pw (nI rc) ra wn, hq_ai ta (G 0) 2000 tx, hq_ai fha (G 0) 12 fh, hq_ai fva (G 0) 12 fv, hq_ai fla (G 0) 12 fl] ++ Z) (fun r (u : (Nat → Int32) × (Nat → Int32) × (Nat → Int32) × Nat) => r = hq_z (hq_nsp tx i j Lf).isSome ∧ u.2.2.2 ≤ 12 ∧ ∀ L9, hq_nsp tx i j Lf = some L9 → hq_rep L9 u.1 u.2.1 u.2.2.1 u.2.2.2) (fun (u : (Nat → Int32) × (Nat → Int32) × (Nat → Int32) × Nat) => [hq_o8 h (nI n) kd ru ya (nI sz) ta la (nI rg) (nI so) (hq_z bg) (nI nc) lfa rta lb wo (nI u.2.2.2) fha fva fla (nI sp) (nI tc) tha tva wa sa ca va tt ld pt pw (nI rc) ra wn, hq_ai ta (G 0) 2000 tx, hq_ai fha (G 0) 12 u.1, hq_ai fva (G 0) 12 u.2.1, hq_ai fla (G 0) 12 u.2.2.1] ++ Z) := by
  refine hq_bI (by decide) (Nat.le_of_ble_eq_true rfl) (fun r u h => by rw [h.1]; exact hq_znar _) ?_
  intro p e s m args below meth c Q hx hb hml hts hown hA hK hN hret ls H locs hl hP hD hS
  have hown : s.vm.findClass "HashedLearnerModel" = some m.cls := hown
  have hl : lv_has ls 11 [(0, .ref h), (1, .int (nI i)), (2, .int (nI j))] := hl
  have cut44 : ∀ (kz : Nat) (fst : Bool) (sd : Int32) (sg : Int32) (sc : Int32) (pq : Nat) (fh1 : Nat → Int32) (fv1 : Nat → Int32) (fl1 : Nat → Int32) (k1 : Nat) (L1 : List (Int32 × Int32 × Int32)) (ls : Array Slot) (H : Heap) (locs : List Loc), j - pq = kz → (pq ≤ j) → (pq < j → ¬ tx pq = 32) → (k1 ≤ 12) → (hq_rep L1 fh1 fv1 fl1 k1) → (hq_nsI tx i j Lf fst sd sg sc pq L1) → lv_has ls 11 [(0, .ref h), (2, .int (nI j)), (4, .int sd), (5, .int sg), (6, .int sc), (7, .int (hq_z fst)), (8, .int (nI pq))] → va_P D hq_cl ([hq_o8 h (nI n) kd ru ya (nI sz) ta la (nI rg) (nI so) (hq_z bg) (nI nc) lfa rta lb wo (nI k1) fha fva fla (nI sp) (nI tc) tha tva wa sa ca va tt ld pt pw (nI rc) ra wn, hq_ai ta (G 0) 2000 tx, hq_ai fha (G 0) 12 fh1, hq_ai fva (G 0) 12 fv1, hq_ai fla (G 0) 12 fl1] ++ Z) H → va_D A ([hq_o8 h (nI n) kd ru ya (nI sz) ta la (nI rg) (nI so) (hq_z bg) (nI nc) lfa rta lb wo (nI k1) fha fva fla (nI sp) (nI tc) tha tva wa sa ca va tt ld pt pw (nI rc) ra wn, hq_ai ta (G 0) 2000 tx, hq_ai fha (G 0) 12 fh1, hq_ai fva (G 0) 12 fv1, hq_ai fla (G 0) 12 fl1] ++ Z) → va_S A s.heap H locs → W p l e (hq_rm 4 0 0) s m args below meth c H locs 0 0 Q (F0 m 44 ls []) := by
    intro kz
    induction kz using Nat.strongRecOn with
    | ind kz ih =>
      intro fst sd sg sc pq fh1 fv1 fl1 k1 L1 ls H locs hkz hpj hpp hk1 hr1 hF hl hP hD hS
      subst hkz
      refine lv_iload hx hb d_M_namespace_44 (lv_at hl 6 rfl) ?_
      refine lv_iload_n hx hb d_M_namespace_46 rfl (lv_at hl 1 rfl) ?_
      refine lv_icmp_ge (tgt := 216) hx hb d_M_namespace_47 rfl (fun c47 => ?_) (fun c47 => ?_)
      · -- 47 taken
        have c47 : j ≤ pq := (nI_leI (a := j) (b := pq) (by omega) (by omega)).mp c47
        refine lv_iconst (v := 1) hx hb d_M_namespace_216 (by decide) ?_
        exact hret 1 (fh1, fv1, fl1, k1) H locs 217 ls d_M_namespace_217 (⟨by rw [hq_nsI_done hF c47 hpj] <;> rfl, hk1, fun L9 h9 => by rw [hq_nsI_done hF c47 hpj] at h9; cases h9; exact hr1⟩) hP hD hS
      · -- 47 not taken
        have c47 : ¬ j ≤ pq := fun h => c47 ((nI_leI (a := j) (b := pq) (by omega) (by omega)).mpr h)
        refine lv_aload_n hx hb d_M_namespace_50 rfl (lv_at hl 0 rfl) ?_
        refine lv_iload hx hb d_M_namespace_51 (lv_at hl 6 rfl) ?_
        refine lv_iload_n hx hb d_M_namespace_53 rfl (lv_at hl 1 rfl) ?_
        have hPc : va_P D hq_cl ([hq_o8 h (nI n) kd ru ya (nI sz) ta la (nI rg) (nI so) (hq_z bg) (nI nc) lfa rta lb wo (nI k1) fha fva fla (nI sp) (nI tc) tha tva wa sa ca va tt ld pt pw (nI rc) ra wn, hq_ai ta (G 0) 2000 tx] ++ ([hq_ai fha (G 0) 12 fh1, hq_ai fva (G 0) 12 fv1, hq_ai fla (G 0) 12 fl1] ++ Z)) H := hP
        have hDc : va_D A ([hq_o8 h (nI n) kd ru ya (nI sz) ta la (nI rg) (nI so) (hq_z bg) (nI nc) lfa rta lb wo (nI k1) fha fva fla (nI sp) (nI tc) tha tva wa sa ca va tt ld pt pw (nI rc) ra wn, hq_ai ta (G 0) 2000 tx] ++ ([hq_ai fha (G 0) 12 fh1, hq_ai fva (G 0) 12 fv1, hq_ai fla (G 0) 12 fl1] ++ Z)) := hD
        refine hq_iF (hq_rV (As := [.int (nI pq), .int (nI j)]) (rest := []) hx hb hml hown hts (c_M_end l D G A ([hq_ai fha (G 0) 12 fh1, hq_ai fva (G 0) 12 fv1, hq_ai fla (G 0) 12 fl1] ++ Z) h ([.int (nI n), .int kd, .int ru, .ref ya, .int (nI sz), .ref ta, .ref la, .int (nI rg), .int (nI so), .int (hq_z bg), .int (nI nc), .ref lfa, .ref rta, .int lb, .int wo, .int (nI k1), .ref fha, .ref fva, .ref fla, .int (nI sp), .int (nI tc), .ref tha, .ref tva, .ref wa, .ref sa, .ref ca, .ref va, .long tt, .int ld, .long pt, .long pw, .int (nI rc), .ref ra, .int wn]) ta tx pq j (by first | assumption | rfl) (by first | assumption | omega) (by first | assumption | omega)) yy_M_end lk_M_106 hA hK hN hS hPc hDc 0 8 rfl rfl rfl hl.1 rfl (Nat.le_of_ble_eq_true rfl) d_M_namespace_54 ⟨by decide, by decide⟩ ⟨by decide, by decide⟩) hS (fun H locs hP hD hS => ?_)
        have hP : va_P D hq_cl ([hq_o8 h (nI n) kd ru ya (nI sz) ta la (nI rg) (nI so) (hq_z bg) (nI nc) lfa rta lb wo (nI k1) fha fva fla (nI sp) (nI tc) tha tva wa sa ca va tt ld pt pw (nI rc) ra wn, hq_ai ta (G 0) 2000 tx, hq_ai fha (G 0) 12 fh1, hq_ai fva (G 0) 12 fv1, hq_ai fla (G 0) 12 fl1] ++ Z) H := hP
        have hD : va_D A ([hq_o8 h (nI n) kd ru ya (nI sz) ta la (nI rg) (nI so) (hq_z bg) (nI nc) lfa rta lb wo (nI k1) fha fva fla (nI sp) (nI tc) tha tva wa sa ca va tt ld pt pw (nI rc) ra wn, hq_ai ta (G 0) 2000 tx, hq_ai fha (G 0) 12 fh1, hq_ai fva (G 0) 12 fv1, hq_ai fla (G 0) 12 fl1] ++ Z) := hD
        have hp2 := hq_fnd_le tx 32 (j - pq) pq
        have hp3 := hq_fnd_gt (c := 32) (hpp (by omega)) (show pq < j by omega)
        refine lv_istore (nL := 11) (lv' := [(9, .int (nI (hq_fnd tx 32 pq (j - pq)))), (0, .ref h), (2, .int (nI j)), (4, .int sd), (5, .int sg), (6, .int sc), (7, .int (hq_z fst)), (8, .int (nI pq))]) hx hb d_M_namespace_57 hl (by decide) rfl (fun ls hl => ?_)
        refine lv_aload_n hx hb d_M_namespace_59 rfl (lv_at hl 1 rfl) ?_
        refine lv_iload hx hb d_M_namespace_60 (lv_at hl 7 rfl) ?_
        refine lv_iload hx hb d_M_namespace_62 (lv_at hl 0 rfl) ?_
        have hPc : va_P D hq_cl ([hq_o8 h (nI n) kd ru ya (nI sz) ta la (nI rg) (nI so) (hq_z bg) (nI nc) lfa rta lb wo (nI k1) fha fva fla (nI sp) (nI tc) tha tva wa sa ca va tt ld pt pw (nI rc) ra wn, hq_ai ta (G 0) 2000 tx] ++ ([hq_ai fha (G 0) 12 fh1, hq_ai fva (G 0) 12 fv1, hq_ai fla (G 0) 12 fl1] ++ Z)) H := hP
        have hDc : va_D A ([hq_o8 h (nI n) kd ru ya (nI sz) ta la (nI rg) (nI so) (hq_z bg) (nI nc) lfa rta lb wo (nI k1) fha fva fla (nI sp) (nI tc) tha tva wa sa ca va tt ld pt pw (nI rc) ra wn, hq_ai ta (G 0) 2000 tx] ++ ([hq_ai fha (G 0) 12 fh1, hq_ai fva (G 0) 12 fv1, hq_ai fla (G 0) 12 fl1] ++ Z)) := hD
        refine hq_iF (hq_rV (As := [.int (nI pq), .int (nI (hq_fnd tx 32 pq (j - pq)))]) (rest := []) hx hb hml hown hts (c_M_nameEnd l D G A ([hq_ai fha (G 0) 12 fh1, hq_ai fva (G 0) 12 fv1, hq_ai fla (G 0) 12 fl1] ++ Z) h ([.int (nI n), .int kd, .int ru, .ref ya, .int (nI sz), .ref ta, .ref la, .int (nI rg), .int (nI so), .int (hq_z bg), .int (nI nc), .ref lfa, .ref rta, .int lb, .int wo, .int (nI k1), .ref fha, .ref fva, .ref fla, .int (nI sp), .int (nI tc), .ref tha, .ref tva, .ref wa, .ref sa, .ref ca, .ref va, .long tt, .int ld, .long pt, .long pw, .int (nI rc), .ref ra, .int wn]) ta tx pq (hq_fnd tx 32 pq (j - pq)) (by first | assumption | rfl) (by first | assumption | omega) (by first | assumption | omega)) yy_M_nameEnd lk_M_116 hA hK hN hS hPc hDc 0 8 rfl rfl rfl hl.1 rfl (Nat.le_of_ble_eq_true rfl) d_M_namespace_64 ⟨by decide, by decide⟩ ⟨by decide, by decide⟩) hS (fun H locs hP hD hS => ?_)
        have hP : va_P D hq_cl ([hq_o8 h (nI n) kd ru ya (nI sz) ta la (nI rg) (nI so) (hq_z bg) (nI nc) lfa rta lb wo (nI k1) fha fva fla (nI sp) (nI tc) tha tva wa sa ca va tt ld pt pw (nI rc) ra wn, hq_ai ta (G 0) 2000 tx, hq_ai fha (G 0) 12 fh1, hq_ai fva (G 0) 12 fv1, hq_ai fla (G 0) 12 fl1] ++ Z) H := hP
        have hD : va_D A ([hq_o8 h (nI n) kd ru ya (nI sz) ta la (nI rg) (nI so) (hq_z bg) (nI nc) lfa rta lb wo (nI k1) fha fva fla (nI sp) (nI tc) tha tva wa sa ca va tt ld pt pw (nI rc) ra wn, hq_ai ta (G 0) 2000 tx, hq_ai fha (G 0) 12 fh1, hq_ai fva (G 0) 12 fv1, hq_ai fla (G 0) 12 fl1] ++ Z) := hD
        refine lv_istore (nL := 11) (lv' := [(10, .int (f_M_nameEnd tx pq (hq_fnd tx 32 pq (j - pq)))), (9, .int (nI (hq_fnd tx 32 pq (j - pq)))), (0, .ref h), (2, .int (nI j)), (4, .int sd), (5, .int sg), (6, .int sc), (7, .int (hq_z fst)), (8, .int (nI pq))]) hx hb d_M_namespace_67 hl (by decide) rfl (fun ls hl => ?_)
        refine lv_iload hx hb d_M_namespace_69 (lv_at hl 0 rfl) ?_
        refine lv_if_lt (tgt := 88) hx hb d_M_namespace_71 rfl (fun c71 => ?_) (fun c71 => ?_)
        · -- 71 taken
          have c71 : (f_M_nameEnd tx pq (hq_fnd tx 32 pq (j - pq))) < 0 := c71
          refine lv_iconst (v := 0) hx hb d_M_namespace_88 (by decide) ?_
          exact hret 0 (fh1, fv1, fl1, k1) H locs 89 ls d_M_namespace_89 (⟨by first | (rw [hq_nsI_bad hF (show pq < j by omega) (by omega) c71] <;> rfl) | (rw [hq_nsI_full hF hr1 (show pq < j by omega) c76 c85] <;> rfl), hk1, fun L9 h9 => by first | (rw [hq_nsI_bad hF (show pq < j by omega) (by omega) c71] at h9; cases h9) | (rw [hq_nsI_full hF hr1 (show pq < j by omega) c76 c85] at h9; cases h9)⟩) hP hD hS
        · -- 71 not taken
          have c71 : ¬ (f_M_nameEnd tx pq (hq_fnd tx 32 pq (j - pq))) < 0 := c71
          refine lv_iload hx hb d_M_namespace_74 (lv_at hl 7 rfl) ?_
          refine lv_if_ne (tgt := 90) hx hb d_M_namespace_76 rfl (fun c76 => ?_) (fun c76 => ?_)
          · -- 76 taken
            have c76 : fst = true := hq_zn.mp c76
            have hp4 := hq_nE_lt c71
            have hp5 := hq_fnd_le tx 58 ((hq_fnd tx 32 pq (j - pq)) - pq) pq
            refine lv_iload hx hb d_M_namespace_90 (lv_at hl 7 rfl) ?_
            refine lv_if_eq (tgt := 128) hx hb d_M_namespace_92 rfl (fun c92 => ?_) (fun c92 => ?_)
            · -- 92 taken
              have c92 : ¬ fst = true := by rw [hq_z0.mp c92]; decide
              exact absurd c76 c92
            · -- 92 not taken
              have c92 : fst = true := hq_zn.mp c92
              refine lv_aload_n hx hb d_M_namespace_95 rfl (lv_at hl 2 rfl) ?_
              refine lv_iload hx hb d_M_namespace_96 (lv_at hl 8 rfl) ?_
              refine lv_iload hx hb d_M_namespace_98 (lv_at hl 0 rfl) ?_
              refine hq_topi (x' := nI (hq_fnd tx 58 pq ((hq_fnd tx 32 pq (j - pq)) - pq))) (hq_nE_nI c71) ?_
              refine lv_iconst (v := 0) hx hb d_M_namespace_100 (by decide) ?_
              have hPc : va_P D hq_cl ([hq_o8 h (nI n) kd ru ya (nI sz) ta la (nI rg) (nI so) (hq_z bg) (nI nc) lfa rta lb wo (nI k1) fha fva fla (nI sp) (nI tc) tha tva wa sa ca va tt ld pt pw (nI rc) ra wn, hq_ai ta (G 0) 2000 tx] ++ ([hq_ai fha (G 0) 12 fh1, hq_ai fva (G 0) 12 fv1, hq_ai fla (G 0) 12 fl1] ++ Z)) H := hP
              have hDc : va_D A ([hq_o8 h (nI n) kd ru ya (nI sz) ta la (nI rg) (nI so) (hq_z bg) (nI nc) lfa rta lb wo (nI k1) fha fva fla (nI sp) (nI tc) tha tva wa sa ca va tt ld pt pw (nI rc) ra wn, hq_ai ta (G 0) 2000 tx] ++ ([hq_ai fha (G 0) 12 fh1, hq_ai fva (G 0) 12 fv1, hq_ai fla (G 0) 12 fl1] ++ Z)) := hD
              refine hq_iF (hq_rV (As := [.int (nI pq), .int (nI (hq_fnd tx 58 pq ((hq_fnd tx 32 pq (j - pq)) - pq))), .int 0]) (rest := []) hx hb hml hown hts (c_M_hashOf l D G A ([hq_ai fha (G 0) 12 fh1, hq_ai fva (G 0) 12 fv1, hq_ai fla (G 0) 12 fl1] ++ Z) h ([.int (nI n), .int kd, .int ru, .ref ya, .int (nI sz), .ref ta, .ref la, .int (nI rg), .int (nI so), .int (hq_z bg), .int (nI nc), .ref lfa, .ref rta, .int lb, .int wo, .int (nI k1), .ref fha, .ref fva, .ref fla, .int (nI sp), .int (nI tc), .ref tha, .ref tva, .ref wa, .ref sa, .ref ca, .ref va, .long tt, .int ld, .long pt, .long pw, .int (nI rc), .ref ra, .int wn]) ta tx pq (hq_fnd tx 58 pq ((hq_fnd tx 32 pq (j - pq)) - pq)) 0 (by first | assumption | rfl) (by first | assumption | omega) (by first | assumption | omega)) yy_M_hashOf lk_M_122 hA hK hN hS hPc hDc 0 8 rfl rfl rfl hl.1 rfl (Nat.le_of_ble_eq_true rfl) d_M_namespace_101 ⟨by decide, by decide⟩ ⟨by decide, by decide⟩) hS (fun H locs hP hD hS => ?_)
              have hP : va_P D hq_cl ([hq_o8 h (nI n) kd ru ya (nI sz) ta la (nI rg) (nI so) (hq_z bg) (nI nc) lfa rta lb wo (nI k1) fha fva fla (nI sp) (nI tc) tha tva wa sa ca va tt ld pt pw (nI rc) ra wn, hq_ai ta (G 0) 2000 tx, hq_ai fha (G 0) 12 fh1, hq_ai fva (G 0) 12 fv1, hq_ai fla (G 0) 12 fl1] ++ Z) H := hP
              have hD : va_D A ([hq_o8 h (nI n) kd ru ya (nI sz) ta la (nI rg) (nI so) (hq_z bg) (nI nc) lfa rta lb wo (nI k1) fha fva fla (nI sp) (nI tc) tha tva wa sa ca va tt ld pt pw (nI rc) ra wn, hq_ai ta (G 0) 2000 tx, hq_ai fha (G 0) 12 fh1, hq_ai fva (G 0) 12 fv1, hq_ai fla (G 0) 12 fl1] ++ Z) := hD
              refine lv_istore (nL := 11) (lv' := [(4, .int (hq_hash tx pq (hq_fnd tx 58 pq ((hq_fnd tx 32 pq (j - pq)) - pq)) 0)), (10, .int (f_M_nameEnd tx pq (hq_fnd tx 32 pq (j - pq)))), (9, .int (nI (hq_fnd tx 32 pq (j - pq)))), (0, .ref h), (2, .int (nI j)), (5, .int sg), (6, .int sc), (7, .int (hq_z fst)), (8, .int (nI pq))]) hx hb d_M_namespace_104 hl (by decide) rfl (fun ls hl => ?_)
              refine lv_aload_n hx hb d_M_namespace_106 rfl (lv_at hl 3 rfl) ?_
              refine va_get (D := D) (ci := 8) (v := .ref ta) (C := R_M) (T := F_M) (N := 34) hx hb hts uw_M hown hK hP 0 rfl rfl 5 (by decide) (hts _ fl_M_13) (fun _ h9 => h9) rfl d_M_namespace_107 ?_
              refine lv_iload hx hb d_M_namespace_110 (lv_at hl 8 rfl) ?_
              refine hq_iald (j := pq) hx hb hK hP 1 rfl (by omega) (by omega) d_M_namespace_112 ?_
              refine lv_istore (nL := 11) (lv' := [(5, .int (tx pq)), (4, .int (hq_hash tx pq (hq_fnd tx 58 pq ((hq_fnd tx 32 pq (j - pq)) - pq)) 0)), (10, .int (f_M_nameEnd tx pq (hq_fnd tx 32 pq (j - pq)))), (9, .int (nI (hq_fnd tx 32 pq (j - pq)))), (0, .ref h), (2, .int (nI j)), (6, .int sc), (7, .int (hq_z fst)), (8, .int (nI pq))]) hx hb d_M_namespace_113 hl (by decide) rfl (fun ls hl => ?_)
              refine lv_aload_n hx hb d_M_namespace_115 rfl (lv_at hl 4 rfl) ?_
              refine lv_iload hx hb d_M_namespace_116 (lv_at hl 8 rfl) ?_
              refine lv_iload hx hb d_M_namespace_118 (lv_at hl 3 rfl) ?_
              have hPc : va_P D hq_cl ([hq_o8 h (nI n) kd ru ya (nI sz) ta la (nI rg) (nI so) (hq_z bg) (nI nc) lfa rta lb wo (nI k1) fha fva fla (nI sp) (nI tc) tha tva wa sa ca va tt ld pt pw (nI rc) ra wn, hq_ai ta (G 0) 2000 tx] ++ ([hq_ai fha (G 0) 12 fh1, hq_ai fva (G 0) 12 fv1, hq_ai fla (G 0) 12 fl1] ++ Z)) H := hP
              have hDc : va_D A ([hq_o8 h (nI n) kd ru ya (nI sz) ta la (nI rg) (nI so) (hq_z bg) (nI nc) lfa rta lb wo (nI k1) fha fva fla (nI sp) (nI tc) tha tva wa sa ca va tt ld pt pw (nI rc) ra wn, hq_ai ta (G 0) 2000 tx] ++ ([hq_ai fha (G 0) 12 fh1, hq_ai fva (G 0) 12 fv1, hq_ai fla (G 0) 12 fl1] ++ Z)) := hD
              refine hq_iF (hq_rV (As := [.int (nI pq), .int (nI (hq_fnd tx 32 pq (j - pq)))]) (rest := []) hx hb hml hown hts (c_M_amount l D G A ([hq_ai fha (G 0) 12 fh1, hq_ai fva (G 0) 12 fv1, hq_ai fla (G 0) 12 fl1] ++ Z) h ([.int (nI n), .int kd, .int ru, .ref ya, .int (nI sz), .ref ta, .ref la, .int (nI rg), .int (nI so), .int (hq_z bg), .int (nI nc), .ref lfa, .ref rta, .int lb, .int wo, .int (nI k1), .ref fha, .ref fva, .ref fla, .int (nI sp), .int (nI tc), .ref tha, .ref tva, .ref wa, .ref sa, .ref ca, .ref va, .long tt, .int ld, .long pt, .long pw, .int (nI rc), .ref ra, .int wn]) ta tx pq (hq_fnd tx 32 pq (j - pq)) (by first | assumption | rfl) (by first | assumption | omega) (by first | assumption | omega)) yy_M_amount lk_M_125 hA hK hN hS hPc hDc 0 8 rfl rfl rfl hl.1 rfl (Nat.le_of_ble_eq_true rfl) d_M_namespace_120 ⟨by decide, by decide⟩ ⟨by decide, by decide⟩) hS (fun H locs hP hD hS => ?_)
              have hP : va_P D hq_cl ([hq_o8 h (nI n) kd ru ya (nI sz) ta la (nI rg) (nI so) (hq_z bg) (nI nc) lfa rta lb wo (nI k1) fha fva fla (nI sp) (nI tc) tha tva wa sa ca va tt ld pt pw (nI rc) ra wn, hq_ai ta (G 0) 2000 tx, hq_ai fha (G 0) 12 fh1, hq_ai fva (G 0) 12 fv1, hq_ai fla (G 0) 12 fl1] ++ Z) H := hP
              have hD : va_D A ([hq_o8 h (nI n) kd ru ya (nI sz) ta la (nI rg) (nI so) (hq_z bg) (nI nc) lfa rta lb wo (nI k1) fha fva fla (nI sp) (nI tc) tha tva wa sa ca va tt ld pt pw (nI rc) ra wn, hq_ai ta (G 0) 2000 tx, hq_ai fha (G 0) 12 fh1, hq_ai fva (G 0) 12 fv1, hq_ai fla (G 0) 12 fl1] ++ Z) := hD
              refine lv_istore (nL := 11) (lv' := [(6, .int (f_M_amount tx pq (hq_fnd tx 32 pq (j - pq)))), (5, .int (tx pq)), (4, .int (hq_hash tx pq (hq_fnd tx 58 pq ((hq_fnd tx 32 pq (j - pq)) - pq)) 0)), (10, .int (f_M_nameEnd tx pq (hq_fnd tx 32 pq (j - pq)))), (9, .int (nI (hq_fnd tx 32 pq (j - pq)))), (0, .ref h), (2, .int (nI j)), (7, .int (hq_z fst)), (8, .int (nI pq))]) hx hb d_M_namespace_123 hl (by decide) rfl (fun ls hl => ?_)
              refine lv_goto (tgt := 201) hx hb d_M_namespace_125 rfl ?_
              refine lv_iconst (v := 0) hx hb d_M_namespace_201 (by decide) ?_
              refine lv_istore (nL := 11) (lv' := [(7, .int 0), (6, .int (f_M_amount tx pq (hq_fnd tx 32 pq (j - pq)))), (5, .int (tx pq)), (4, .int (hq_hash tx pq (hq_fnd tx 58 pq ((hq_fnd tx 32 pq (j - pq)) - pq)) 0)), (10, .int (f_M_nameEnd tx pq (hq_fnd tx 32 pq (j - pq)))), (9, .int (nI (hq_fnd tx 32 pq (j - pq)))), (0, .ref h), (2, .int (nI j)), (8, .int (nI pq))]) hx hb d_M_namespace_202 hl (by decide) rfl (fun ls hl => ?_)
              refine lv_aload_n hx hb d_M_namespace_204 rfl (lv_at hl 6 rfl) ?_
              refine lv_iload hx hb d_M_namespace_205 (lv_at hl 5 rfl) ?_
              refine lv_iload_n hx hb d_M_namespace_207 rfl (lv_at hl 7 rfl) ?_
              have hPc : va_P D hq_cl ([hq_o8 h (nI n) kd ru ya (nI sz) ta la (nI rg) (nI so) (hq_z bg) (nI nc) lfa rta lb wo (nI k1) fha fva fla (nI sp) (nI tc) tha tva wa sa ca va tt ld pt pw (nI rc) ra wn, hq_ai ta (G 0) 2000 tx] ++ ([hq_ai fha (G 0) 12 fh1, hq_ai fva (G 0) 12 fv1, hq_ai fla (G 0) 12 fl1] ++ Z)) H := hP
              have hDc : va_D A ([hq_o8 h (nI n) kd ru ya (nI sz) ta la (nI rg) (nI so) (hq_z bg) (nI nc) lfa rta lb wo (nI k1) fha fva fla (nI sp) (nI tc) tha tva wa sa ca va tt ld pt pw (nI rc) ra wn, hq_ai ta (G 0) 2000 tx] ++ ([hq_ai fha (G 0) 12 fh1, hq_ai fva (G 0) 12 fv1, hq_ai fla (G 0) 12 fl1] ++ Z)) := hD
              refine hq_iF (hq_rV (As := [.int (nI (hq_fnd tx 32 pq (j - pq))), .int (nI j)]) (rest := []) hx hb hml hown hts (c_M_begin l D G A ([hq_ai fha (G 0) 12 fh1, hq_ai fva (G 0) 12 fv1, hq_ai fla (G 0) 12 fl1] ++ Z) h ([.int (nI n), .int kd, .int ru, .ref ya, .int (nI sz), .ref ta, .ref la, .int (nI rg), .int (nI so), .int (hq_z bg), .int (nI nc), .ref lfa, .ref rta, .int lb, .int wo, .int (nI k1), .ref fha, .ref fva, .ref fla, .int (nI sp), .int (nI tc), .ref tha, .ref tva, .ref wa, .ref sa, .ref ca, .ref va, .long tt, .int ld, .long pt, .long pw, .int (nI rc), .ref ra, .int wn]) ta tx (hq_fnd tx 32 pq (j - pq)) j (by first | assumption | rfl) (by first | assumption | omega) (by first | assumption | omega)) yy_M_begin lk_M_103 hA hK hN hS hPc hDc 0 8 rfl rfl rfl hl.1 rfl (Nat.le_of_ble_eq_true rfl) d_M_namespace_208 ⟨by decide, by decide⟩ ⟨by decide, by decide⟩) hS (fun H locs hP hD hS => ?_)
              have hP : va_P D hq_cl ([hq_o8 h (nI n) kd ru ya (nI sz) ta la (nI rg) (nI so) (hq_z bg) (nI nc) lfa rta lb wo (nI k1) fha fva fla (nI sp) (nI tc) tha tva wa sa ca va tt ld pt pw (nI rc) ra wn, hq_ai ta (G 0) 2000 tx, hq_ai fha (G 0) 12 fh1, hq_ai fva (G 0) 12 fv1, hq_ai fla (G 0) 12 fl1] ++ Z) H := hP
              have hD : va_D A ([hq_o8 h (nI n) kd ru ya (nI sz) ta la (nI rg) (nI so) (hq_z bg) (nI nc) lfa rta lb wo (nI k1) fha fva fla (nI sp) (nI tc) tha tva wa sa ca va tt ld pt pw (nI rc) ra wn, hq_ai ta (G 0) 2000 tx, hq_ai fha (G 0) 12 fh1, hq_ai fva (G 0) 12 fv1, hq_ai fla (G 0) 12 fl1] ++ Z) := hD
              have hp6 := hq_skp_le tx 32 (j - (hq_fnd tx 32 pq (j - pq))) (hq_fnd tx 32 pq (j - pq))
              have hp7 := hq_skp_at tx 32 (j - (hq_fnd tx 32 pq (j - pq))) (hq_fnd tx 32 pq (j - pq))
              refine lv_istore (nL := 11) (lv' := [(8, .int (nI (hq_skp tx 32 (hq_fnd tx 32 pq (j - pq)) (j - (hq_fnd tx 32 pq (j - pq)))))), (7, .int 0), (6, .int (f_M_amount tx pq (hq_fnd tx 32 pq (j - pq)))), (5, .int (tx pq)), (4, .int (hq_hash tx pq (hq_fnd tx 58 pq ((hq_fnd tx 32 pq (j - pq)) - pq)) 0)), (10, .int (f_M_nameEnd tx pq (hq_fnd tx 32 pq (j - pq)))), (9, .int (nI (hq_fnd tx 32 pq (j - pq)))), (0, .ref h), (2, .int (nI j))]) hx hb d_M_namespace_211 hl (by decide) rfl (fun ls hl => ?_)
              refine lv_goto (tgt := 44) hx hb d_M_namespace_213 rfl ?_
              exact ih _ (by omega) false (hq_hash tx pq (hq_fnd tx 58 pq ((hq_fnd tx 32 pq (j - pq)) - pq)) 0) (tx pq) (f_M_amount tx pq (hq_fnd tx 32 pq (j - pq))) (hq_skp tx 32 (hq_fnd tx 32 pq (j - pq)) (j - (hq_fnd tx 32 pq (j - pq)))) fh1 fv1 fl1 k1 L1 ls H locs rfl (by first | assumption | omega) (fun h9 => hp7 (by omega)) (by first | assumption | omega) (hr1) (hq_nsI_title hF c76 (by omega) c71) (lv_sub hl [7, 8, 4, 3, 2, 1, 0] rfl) hP hD hS
          · -- 76 not taken
            have c76 : ¬ fst = true := by rw [hq_z0.mp c76]; decide
            refine lv_aload_n hx hb d_M_namespace_79 rfl (lv_at hl 2 rfl) ?_
            refine va_get (D := D) (ci := 8) (v := .int (nI k1)) (C := R_M) (T := F_M) (N := 34) hx hb hts uw_M hown hK hP 0 rfl rfl 15 (by decide) (hts _ fl_M_119) (fun _ h9 => h9) rfl d_M_namespace_80 ?_
            refine lv_bipush (v := 12) hx hb d_M_namespace_83 (by decide) ?_
            refine lv_icmp_lt (tgt := 90) hx hb d_M_namespace_85 rfl (fun c85 => ?_) (fun c85 => ?_)
            · -- 85 taken
              have c85 : k1 < 12 := (nI_ltI (a := k1) (b := 12) (by omega) (by omega)).mp c85
              have hp4 := hq_nE_lt c71
              have hp5 := hq_fnd_le tx 58 ((hq_fnd tx 32 pq (j - pq)) - pq) pq
              refine lv_iload hx hb d_M_namespace_90 (lv_at hl 7 rfl) ?_
              refine lv_if_eq (tgt := 128) hx hb d_M_namespace_92 rfl (fun c92 => ?_) (fun c92 => ?_)
              · -- 92 taken
                have c92 : ¬ fst = true := by rw [hq_z0.mp c92]; decide
                refine lv_aload_n hx hb d_M_namespace_128 rfl (lv_at hl 2 rfl) ?_
                refine va_get (D := D) (ci := 8) (v := .ref fha) (C := R_M) (T := F_M) (N := 34) hx hb hts uw_M hown hK hP 0 rfl rfl 16 (by decide) (hts _ fl_M_25) (fun _ h9 => h9) rfl d_M_namespace_129 ?_
                refine lv_aload_n hx hb d_M_namespace_132 rfl (lv_at hl 2 rfl) ?_
                refine va_get (D := D) (ci := 8) (v := .int (nI k1)) (C := R_M) (T := F_M) (N := 34) hx hb hts uw_M hown hK hP 0 rfl rfl 15 (by decide) (hts _ fl_M_119) (fun _ h9 => h9) rfl d_M_namespace_133 ?_
                refine lv_aload_n hx hb d_M_namespace_136 rfl (lv_at hl 2 rfl) ?_
                refine lv_iload hx hb d_M_namespace_137 (lv_at hl 8 rfl) ?_
                refine lv_iload hx hb d_M_namespace_139 (lv_at hl 0 rfl) ?_
                refine hq_topi (x' := nI (hq_fnd tx 58 pq ((hq_fnd tx 32 pq (j - pq)) - pq))) (hq_nE_nI c71) ?_
                refine lv_iload hx hb d_M_namespace_141 (lv_at hl 4 rfl) ?_
                have hPc : va_P D hq_cl ([hq_o8 h (nI n) kd ru ya (nI sz) ta la (nI rg) (nI so) (hq_z bg) (nI nc) lfa rta lb wo (nI k1) fha fva fla (nI sp) (nI tc) tha tva wa sa ca va tt ld pt pw (nI rc) ra wn, hq_ai ta (G 0) 2000 tx] ++ ([hq_ai fha (G 0) 12 fh1, hq_ai fva (G 0) 12 fv1, hq_ai fla (G 0) 12 fl1] ++ Z)) H := hP
                have hDc : va_D A ([hq_o8 h (nI n) kd ru ya (nI sz) ta la (nI rg) (nI so) (hq_z bg) (nI nc) lfa rta lb wo (nI k1) fha fva fla (nI sp) (nI tc) tha tva wa sa ca va tt ld pt pw (nI rc) ra wn, hq_ai ta (G 0) 2000 tx] ++ ([hq_ai fha (G 0) 12 fh1, hq_ai fva (G 0) 12 fv1, hq_ai fla (G 0) 12 fl1] ++ Z)) := hD
                refine hq_iF (hq_rV (As := [.int (nI pq), .int (nI (hq_fnd tx 58 pq ((hq_fnd tx 32 pq (j - pq)) - pq))), .int sd]) (rest := [.int (nI k1), .ref fha]) hx hb hml hown hts (c_M_hashOf l D G A ([hq_ai fha (G 0) 12 fh1, hq_ai fva (G 0) 12 fv1, hq_ai fla (G 0) 12 fl1] ++ Z) h ([.int (nI n), .int kd, .int ru, .ref ya, .int (nI sz), .ref ta, .ref la, .int (nI rg), .int (nI so), .int (hq_z bg), .int (nI nc), .ref lfa, .ref rta, .int lb, .int wo, .int (nI k1), .ref fha, .ref fva, .ref fla, .int (nI sp), .int (nI tc), .ref tha, .ref tva, .ref wa, .ref sa, .ref ca, .ref va, .long tt, .int ld, .long pt, .long pw, .int (nI rc), .ref ra, .int wn]) ta tx pq (hq_fnd tx 58 pq ((hq_fnd tx 32 pq (j - pq)) - pq)) sd (by first | assumption | rfl) (by first | assumption | omega) (by first | assumption | omega)) yy_M_hashOf lk_M_122 hA hK hN hS hPc hDc 0 8 rfl rfl rfl hl.1 rfl (Nat.le_of_ble_eq_true rfl) d_M_namespace_143 ⟨by decide, by decide⟩ ⟨by decide, by decide⟩) hS (fun H locs hP hD hS => ?_)
                have hP : va_P D hq_cl ([hq_o8 h (nI n) kd ru ya (nI sz) ta la (nI rg) (nI so) (hq_z bg) (nI nc) lfa rta lb wo (nI k1) fha fva fla (nI sp) (nI tc) tha tva wa sa ca va tt ld pt pw (nI rc) ra wn, hq_ai ta (G 0) 2000 tx, hq_ai fha (G 0) 12 fh1, hq_ai fva (G 0) 12 fv1, hq_ai fla (G 0) 12 fl1] ++ Z) H := hP
                have hD : va_D A ([hq_o8 h (nI n) kd ru ya (nI sz) ta la (nI rg) (nI so) (hq_z bg) (nI nc) lfa rta lb wo (nI k1) fha fva fla (nI sp) (nI tc) tha tva wa sa ca va tt ld pt pw (nI rc) ra wn, hq_ai ta (G 0) 2000 tx, hq_ai fha (G 0) 12 fh1, hq_ai fva (G 0) 12 fv1, hq_ai fla (G 0) 12 fl1] ++ Z) := hD
                refine hq_iast (j := k1) hx hb hK hP hD hS 2 rfl (by omega) (by omega) d_M_namespace_146 (fun H locs hP hD hS => ?_)
                have hP : va_P D hq_cl ([hq_o8 h (nI n) kd ru ya (nI sz) ta la (nI rg) (nI so) (hq_z bg) (nI nc) lfa rta lb wo (nI k1) fha fva fla (nI sp) (nI tc) tha tva wa sa ca va tt ld pt pw (nI rc) ra wn, hq_ai ta (G 0) 2000 tx, hq_ai fha (G 0) 12 (upd fh1 k1 (hq_hash tx pq (hq_fnd tx 58 pq ((hq_fnd tx 32 pq (j - pq)) - pq)) sd)), hq_ai fva (G 0) 12 fv1, hq_ai fla (G 0) 12 fl1] ++ Z) H := hP
                have hD : va_D A ([hq_o8 h (nI n) kd ru ya (nI sz) ta la (nI rg) (nI so) (hq_z bg) (nI nc) lfa rta lb wo (nI k1) fha fva fla (nI sp) (nI tc) tha tva wa sa ca va tt ld pt pw (nI rc) ra wn, hq_ai ta (G 0) 2000 tx, hq_ai fha (G 0) 12 (upd fh1 k1 (hq_hash tx pq (hq_fnd tx 58 pq ((hq_fnd tx 32 pq (j - pq)) - pq)) sd)), hq_ai fva (G 0) 12 fv1, hq_ai fla (G 0) 12 fl1] ++ Z) := hD
                refine lv_aload_n hx hb d_M_namespace_147 rfl (lv_at hl 2 rfl) ?_
                refine va_get (D := D) (ci := 8) (v := .ref fla) (C := R_M) (T := F_M) (N := 34) hx hb hts uw_M hown hK hP 0 rfl rfl 18 (by decide) (hts _ fl_M_31) (fun _ h9 => h9) rfl d_M_namespace_148 ?_
                refine lv_aload_n hx hb d_M_namespace_151 rfl (lv_at hl 2 rfl) ?_
                refine va_get (D := D) (ci := 8) (v := .int (nI k1)) (C := R_M) (T := F_M) (N := 34) hx hb hts uw_M hown hK hP 0 rfl rfl 15 (by decide) (hts _ fl_M_119) (fun _ h9 => h9) rfl d_M_namespace_152 ?_
                refine lv_iload hx hb d_M_namespace_155 (lv_at hl 5 rfl) ?_
                refine hq_iast (j := k1) hx hb hK hP hD hS 4 rfl (by omega) (by omega) d_M_namespace_157 (fun H locs hP hD hS => ?_)
                have hP : va_P D hq_cl ([hq_o8 h (nI n) kd ru ya (nI sz) ta la (nI rg) (nI so) (hq_z bg) (nI nc) lfa rta lb wo (nI k1) fha fva fla (nI sp) (nI tc) tha tva wa sa ca va tt ld pt pw (nI rc) ra wn, hq_ai ta (G 0) 2000 tx, hq_ai fha (G 0) 12 (upd fh1 k1 (hq_hash tx pq (hq_fnd tx 58 pq ((hq_fnd tx 32 pq (j - pq)) - pq)) sd)), hq_ai fva (G 0) 12 fv1, hq_ai fla (G 0) 12 (upd fl1 k1 sg)] ++ Z) H := hP
                have hD : va_D A ([hq_o8 h (nI n) kd ru ya (nI sz) ta la (nI rg) (nI so) (hq_z bg) (nI nc) lfa rta lb wo (nI k1) fha fva fla (nI sp) (nI tc) tha tva wa sa ca va tt ld pt pw (nI rc) ra wn, hq_ai ta (G 0) 2000 tx, hq_ai fha (G 0) 12 (upd fh1 k1 (hq_hash tx pq (hq_fnd tx 58 pq ((hq_fnd tx 32 pq (j - pq)) - pq)) sd)), hq_ai fva (G 0) 12 fv1, hq_ai fla (G 0) 12 (upd fl1 k1 sg)] ++ Z) := hD
                refine lv_aload_n hx hb d_M_namespace_158 rfl (lv_at hl 2 rfl) ?_
                refine va_get (D := D) (ci := 8) (v := .ref fva) (C := R_M) (T := F_M) (N := 34) hx hb hts uw_M hown hK hP 0 rfl rfl 17 (by decide) (hts _ fl_M_28) (fun _ h9 => h9) rfl d_M_namespace_159 ?_
                refine lv_aload_n hx hb d_M_namespace_162 rfl (lv_at hl 2 rfl) ?_
                refine va_get (D := D) (ci := 8) (v := .int (nI k1)) (C := R_M) (T := F_M) (N := 34) hx hb hts uw_M hown hK hP 0 rfl rfl 15 (by decide) (hts _ fl_M_119) (fun _ h9 => h9) rfl d_M_namespace_163 ?_
                refine lv_aload_n hx hb d_M_namespace_166 rfl (lv_at hl 2 rfl) ?_
                refine lv_iload hx hb d_M_namespace_167 (lv_at hl 8 rfl) ?_
                refine lv_iload hx hb d_M_namespace_169 (lv_at hl 1 rfl) ?_
                have hPc : va_P D hq_cl ([hq_o8 h (nI n) kd ru ya (nI sz) ta la (nI rg) (nI so) (hq_z bg) (nI nc) lfa rta lb wo (nI k1) fha fva fla (nI sp) (nI tc) tha tva wa sa ca va tt ld pt pw (nI rc) ra wn, hq_ai ta (G 0) 2000 tx] ++ ([hq_ai fha (G 0) 12 (upd fh1 k1 (hq_hash tx pq (hq_fnd tx 58 pq ((hq_fnd tx 32 pq (j - pq)) - pq)) sd)), hq_ai fva (G 0) 12 fv1, hq_ai fla (G 0) 12 (upd fl1 k1 sg)] ++ Z)) H := hP
                have hDc : va_D A ([hq_o8 h (nI n) kd ru ya (nI sz) ta la (nI rg) (nI so) (hq_z bg) (nI nc) lfa rta lb wo (nI k1) fha fva fla (nI sp) (nI tc) tha tva wa sa ca va tt ld pt pw (nI rc) ra wn, hq_ai ta (G 0) 2000 tx] ++ ([hq_ai fha (G 0) 12 (upd fh1 k1 (hq_hash tx pq (hq_fnd tx 58 pq ((hq_fnd tx 32 pq (j - pq)) - pq)) sd)), hq_ai fva (G 0) 12 fv1, hq_ai fla (G 0) 12 (upd fl1 k1 sg)] ++ Z)) := hD
                refine hq_iF (hq_rV (As := [.int (nI pq), .int (nI (hq_fnd tx 32 pq (j - pq)))]) (rest := [.int (nI k1), .ref fva]) hx hb hml hown hts (c_M_amount l D G A ([hq_ai fha (G 0) 12 (upd fh1 k1 (hq_hash tx pq (hq_fnd tx 58 pq ((hq_fnd tx 32 pq (j - pq)) - pq)) sd)), hq_ai fva (G 0) 12 fv1, hq_ai fla (G 0) 12 (upd fl1 k1 sg)] ++ Z) h ([.int (nI n), .int kd, .int ru, .ref ya, .int (nI sz), .ref ta, .ref la, .int (nI rg), .int (nI so), .int (hq_z bg), .int (nI nc), .ref lfa, .ref rta, .int lb, .int wo, .int (nI k1), .ref fha, .ref fva, .ref fla, .int (nI sp), .int (nI tc), .ref tha, .ref tva, .ref wa, .ref sa, .ref ca, .ref va, .long tt, .int ld, .long pt, .long pw, .int (nI rc), .ref ra, .int wn]) ta tx pq (hq_fnd tx 32 pq (j - pq)) (by first | assumption | rfl) (by first | assumption | omega) (by first | assumption | omega)) yy_M_amount lk_M_125 hA hK hN hS hPc hDc 0 8 rfl rfl rfl hl.1 rfl (Nat.le_of_ble_eq_true rfl) d_M_namespace_171 ⟨by decide, by decide⟩ ⟨by decide, by decide⟩) hS (fun H locs hP hD hS => ?_)
                have hP : va_P D hq_cl ([hq_o8 h (nI n) kd ru ya (nI sz) ta la (nI rg) (nI so) (hq_z bg) (nI nc) lfa rta lb wo (nI k1) fha fva fla (nI sp) (nI tc) tha tva wa sa ca va tt ld pt pw (nI rc) ra wn, hq_ai ta (G 0) 2000 tx, hq_ai fha (G 0) 12 (upd fh1 k1 (hq_hash tx pq (hq_fnd tx 58 pq ((hq_fnd tx 32 pq (j - pq)) - pq)) sd)), hq_ai fva (G 0) 12 fv1, hq_ai fla (G 0) 12 (upd fl1 k1 sg)] ++ Z) H := hP
                have hD : va_D A ([hq_o8 h (nI n) kd ru ya (nI sz) ta la (nI rg) (nI so) (hq_z bg) (nI nc) lfa rta lb wo (nI k1) fha fva fla (nI sp) (nI tc) tha tva wa sa ca va tt ld pt pw (nI rc) ra wn, hq_ai ta (G 0) 2000 tx, hq_ai fha (G 0) 12 (upd fh1 k1 (hq_hash tx pq (hq_fnd tx 58 pq ((hq_fnd tx 32 pq (j - pq)) - pq)) sd)), hq_ai fva (G 0) 12 fv1, hq_ai fla (G 0) 12 (upd fl1 k1 sg)] ++ Z) := hD
                refine lv_i2l (v := Int32.toInt64 (f_M_amount tx pq (hq_fnd tx 32 pq (j - pq)))) hx hb d_M_namespace_174 rfl ?_
                refine lv_iload hx hb d_M_namespace_175 (lv_at hl 6 rfl) ?_
                refine lv_i2l (v := Int32.toInt64 sc) hx hb d_M_namespace_177 rfl ?_
                refine lv_lmul hx hb d_M_namespace_178 ?_
                refine lv_ldc2 (v := 100) hx hb hown (hts _ kl_M_128) d_M_namespace_179 ?_
                refine lv_ldiv hx hb d_M_namespace_182 (by decide) ?_
                refine lv_ldc2 (v := 99999) hx hb hown (hts _ kl_M_130) d_M_namespace_183 ?_
                have hPc : va_P D hq_cl ([] ++ ([hq_o8 h (nI n) kd ru ya (nI sz) ta la (nI rg) (nI so) (hq_z bg) (nI nc) lfa rta lb wo (nI k1) fha fva fla (nI sp) (nI tc) tha tva wa sa ca va tt ld pt pw (nI rc) ra wn, hq_ai ta (G 0) 2000 tx, hq_ai fha (G 0) 12 (upd fh1 k1 (hq_hash tx pq (hq_fnd tx 58 pq ((hq_fnd tx 32 pq (j - pq)) - pq)) sd)), hq_ai fva (G 0) 12 fv1, hq_ai fla (G 0) 12 (upd fl1 k1 sg)] ++ Z)) H := hP
                have hDc : va_D A ([] ++ ([hq_o8 h (nI n) kd ru ya (nI sz) ta la (nI rg) (nI so) (hq_z bg) (nI nc) lfa rta lb wo (nI k1) fha fva fla (nI sp) (nI tc) tha tva wa sa ca va tt ld pt pw (nI rc) ra wn, hq_ai ta (G 0) 2000 tx, hq_ai fha (G 0) 12 (upd fh1 k1 (hq_hash tx pq (hq_fnd tx 58 pq ((hq_fnd tx 32 pq (j - pq)) - pq)) sd)), hq_ai fva (G 0) 12 fv1, hq_ai fla (G 0) 12 (upd fl1 k1 sg)] ++ Z)) := hD
                refine hq_lF (hq_rS (As := [.long (((Int32.toInt64 (f_M_amount tx pq (hq_fnd tx 32 pq (j - pq)))) * (Int32.toInt64 sc)) / 100), .long 99999]) (rest := [.int (nI k1), .ref fva]) hx hb hml hown hts (c_M_clip l D G A ([hq_o8 h (nI n) kd ru ya (nI sz) ta la (nI rg) (nI so) (hq_z bg) (nI nc) lfa rta lb wo (nI k1) fha fva fla (nI sp) (nI tc) tha tva wa sa ca va tt ld pt pw (nI rc) ra wn, hq_ai ta (G 0) 2000 tx, hq_ai fha (G 0) 12 (upd fh1 k1 (hq_hash tx pq (hq_fnd tx 58 pq ((hq_fnd tx 32 pq (j - pq)) - pq)) sd)), hq_ai fva (G 0) 12 fv1, hq_ai fla (G 0) 12 (upd fl1 k1 sg)] ++ Z) (((Int32.toInt64 (f_M_amount tx pq (hq_fnd tx 32 pq (j - pq)))) * (Int32.toInt64 sc)) / 100) 99999) yy_M_clip lk_M_132 hA hK hN hS hPc hDc rfl hl.1 rfl (Nat.le_of_ble_eq_true rfl) d_M_namespace_186 ⟨by decide, by decide⟩ ⟨by decide, by decide⟩) hS (fun H locs hP hD hS => ?_)
                have hP : va_P D hq_cl ([hq_o8 h (nI n) kd ru ya (nI sz) ta la (nI rg) (nI so) (hq_z bg) (nI nc) lfa rta lb wo (nI k1) fha fva fla (nI sp) (nI tc) tha tva wa sa ca va tt ld pt pw (nI rc) ra wn, hq_ai ta (G 0) 2000 tx, hq_ai fha (G 0) 12 (upd fh1 k1 (hq_hash tx pq (hq_fnd tx 58 pq ((hq_fnd tx 32 pq (j - pq)) - pq)) sd)), hq_ai fva (G 0) 12 fv1, hq_ai fla (G 0) 12 (upd fl1 k1 sg)] ++ Z) H := hP
                have hD : va_D A ([hq_o8 h (nI n) kd ru ya (nI sz) ta la (nI rg) (nI so) (hq_z bg) (nI nc) lfa rta lb wo (nI k1) fha fva fla (nI sp) (nI tc) tha tva wa sa ca va tt ld pt pw (nI rc) ra wn, hq_ai ta (G 0) 2000 tx, hq_ai fha (G 0) 12 (upd fh1 k1 (hq_hash tx pq (hq_fnd tx 58 pq ((hq_fnd tx 32 pq (j - pq)) - pq)) sd)), hq_ai fva (G 0) 12 fv1, hq_ai fla (G 0) 12 (upd fl1 k1 sg)] ++ Z) := hD
                refine lv_l2i (v := Int64.toInt32 (f_M_clip (((Int32.toInt64 (f_M_amount tx pq (hq_fnd tx 32 pq (j - pq)))) * (Int32.toInt64 sc)) / 100) 99999)) hx hb d_M_namespace_189 rfl ?_
                refine hq_iast (j := k1) hx hb hK hP hD hS 3 rfl (by omega) (by omega) d_M_namespace_190 (fun H locs hP hD hS => ?_)
                have hP : va_P D hq_cl ([hq_o8 h (nI n) kd ru ya (nI sz) ta la (nI rg) (nI so) (hq_z bg) (nI nc) lfa rta lb wo (nI k1) fha fva fla (nI sp) (nI tc) tha tva wa sa ca va tt ld pt pw (nI rc) ra wn, hq_ai ta (G 0) 2000 tx, hq_ai fha (G 0) 12 (upd fh1 k1 (hq_hash tx pq (hq_fnd tx 58 pq ((hq_fnd tx 32 pq (j - pq)) - pq)) sd)), hq_ai fva (G 0) 12 (upd fv1 k1 (Int64.toInt32 (f_M_clip (((Int32.toInt64 (f_M_amount tx pq (hq_fnd tx 32 pq (j - pq)))) * (Int32.toInt64 sc)) / 100) 99999))), hq_ai fla (G 0) 12 (upd fl1 k1 sg)] ++ Z) H := hP
                have hD : va_D A ([hq_o8 h (nI n) kd ru ya (nI sz) ta la (nI rg) (nI so) (hq_z bg) (nI nc) lfa rta lb wo (nI k1) fha fva fla (nI sp) (nI tc) tha tva wa sa ca va tt ld pt pw (nI rc) ra wn, hq_ai ta (G 0) 2000 tx, hq_ai fha (G 0) 12 (upd fh1 k1 (hq_hash tx pq (hq_fnd tx 58 pq ((hq_fnd tx 32 pq (j - pq)) - pq)) sd)), hq_ai fva (G 0) 12 (upd fv1 k1 (Int64.toInt32 (f_M_clip (((Int32.toInt64 (f_M_amount tx pq (hq_fnd tx 32 pq (j - pq)))) * (Int32.toInt64 sc)) / 100) 99999))), hq_ai fla (G 0) 12 (upd fl1 k1 sg)] ++ Z) := hD
                refine lv_aload_n hx hb d_M_namespace_191 rfl (lv_at hl 2 rfl) ?_
                refine lv_dup hx hb d_M_namespace_192 rfl ?_
                refine va_get (D := D) (ci := 8) (v := .int (nI k1)) (C := R_M) (T := F_M) (N := 34) hx hb hts uw_M hown hK hP 0 rfl rfl 15 (by decide) (hts _ fl_M_119) (fun _ h9 => h9) rfl d_M_namespace_193 ?_
                refine lv_iconst (v := 1) hx hb d_M_namespace_196 (by decide) ?_
                refine lv_iadd hx hb d_M_namespace_197 ?_
                refine hq_topi (x' := nI (k1 + 1)) (nI_add k1 1) ?_
                refine va_put (D := D) (ci := 8) (v := .int (nI (k1 + 1))) (ty := .int) (C := R_M) (T := F_M) (N := 34) hx hb hts uw_M t_M t_M_ok n_M hown hK hP hD hS 0 rfl rfl 15 (by decide) (hts _ fl_M_119) (fun _ h9 => h9) rfl (by decide +kernel) (rfl) (rfl) (Nat.le_of_ble_eq_true rfl) d_M_namespace_198 (fun H locs hP hD hS => ?_)
                have hP : va_P D hq_cl ([hq_o8 h (nI n) kd ru ya (nI sz) ta la (nI rg) (nI so) (hq_z bg) (nI nc) lfa rta lb wo (nI (k1 + 1)) fha fva fla (nI sp) (nI tc) tha tva wa sa ca va tt ld pt pw (nI rc) ra wn, hq_ai ta (G 0) 2000 tx, hq_ai fha (G 0) 12 (upd fh1 k1 (hq_hash tx pq (hq_fnd tx 58 pq ((hq_fnd tx 32 pq (j - pq)) - pq)) sd)), hq_ai fva (G 0) 12 (upd fv1 k1 (Int64.toInt32 (f_M_clip (((Int32.toInt64 (f_M_amount tx pq (hq_fnd tx 32 pq (j - pq)))) * (Int32.toInt64 sc)) / 100) 99999))), hq_ai fla (G 0) 12 (upd fl1 k1 sg)] ++ Z) H := hP
                have hD : va_D A ([hq_o8 h (nI n) kd ru ya (nI sz) ta la (nI rg) (nI so) (hq_z bg) (nI nc) lfa rta lb wo (nI (k1 + 1)) fha fva fla (nI sp) (nI tc) tha tva wa sa ca va tt ld pt pw (nI rc) ra wn, hq_ai ta (G 0) 2000 tx, hq_ai fha (G 0) 12 (upd fh1 k1 (hq_hash tx pq (hq_fnd tx 58 pq ((hq_fnd tx 32 pq (j - pq)) - pq)) sd)), hq_ai fva (G 0) 12 (upd fv1 k1 (Int64.toInt32 (f_M_clip (((Int32.toInt64 (f_M_amount tx pq (hq_fnd tx 32 pq (j - pq)))) * (Int32.toInt64 sc)) / 100) 99999))), hq_ai fla (G 0) 12 (upd fl1 k1 sg)] ++ Z) := hD
                refine lv_iconst (v := 0) hx hb d_M_namespace_201 (by decide) ?_
                refine lv_istore (nL := 11) (lv' := [(7, .int 0), (10, .int (f_M_nameEnd tx pq (hq_fnd tx 32 pq (j - pq)))), (9, .int (nI (hq_fnd tx 32 pq (j - pq)))), (0, .ref h), (2, .int (nI j)), (4, .int sd), (5, .int sg), (6, .int sc), (8, .int (nI pq))]) hx hb d_M_namespace_202 hl (by decide) rfl (fun ls hl => ?_)
                refine lv_aload_n hx hb d_M_namespace_204 rfl (lv_at hl 3 rfl) ?_
                refine lv_iload hx hb d_M_namespace_205 (lv_at hl 2 rfl) ?_
                refine lv_iload_n hx hb d_M_namespace_207 rfl (lv_at hl 4 rfl) ?_
                have hPc : va_P D hq_cl ([hq_o8 h (nI n) kd ru ya (nI sz) ta la (nI rg) (nI so) (hq_z bg) (nI nc) lfa rta lb wo (nI (k1 + 1)) fha fva fla (nI sp) (nI tc) tha tva wa sa ca va tt ld pt pw (nI rc) ra wn, hq_ai ta (G 0) 2000 tx] ++ ([hq_ai fha (G 0) 12 (upd fh1 k1 (hq_hash tx pq (hq_fnd tx 58 pq ((hq_fnd tx 32 pq (j - pq)) - pq)) sd)), hq_ai fva (G 0) 12 (upd fv1 k1 (Int64.toInt32 (f_M_clip (((Int32.toInt64 (f_M_amount tx pq (hq_fnd tx 32 pq (j - pq)))) * (Int32.toInt64 sc)) / 100) 99999))), hq_ai fla (G 0) 12 (upd fl1 k1 sg)] ++ Z)) H := hP
                have hDc : va_D A ([hq_o8 h (nI n) kd ru ya (nI sz) ta la (nI rg) (nI so) (hq_z bg) (nI nc) lfa rta lb wo (nI (k1 + 1)) fha fva fla (nI sp) (nI tc) tha tva wa sa ca va tt ld pt pw (nI rc) ra wn, hq_ai ta (G 0) 2000 tx] ++ ([hq_ai fha (G 0) 12 (upd fh1 k1 (hq_hash tx pq (hq_fnd tx 58 pq ((hq_fnd tx 32 pq (j - pq)) - pq)) sd)), hq_ai fva (G 0) 12 (upd fv1 k1 (Int64.toInt32 (f_M_clip (((Int32.toInt64 (f_M_amount tx pq (hq_fnd tx 32 pq (j - pq)))) * (Int32.toInt64 sc)) / 100) 99999))), hq_ai fla (G 0) 12 (upd fl1 k1 sg)] ++ Z)) := hD
                refine hq_iF (hq_rV (As := [.int (nI (hq_fnd tx 32 pq (j - pq))), .int (nI j)]) (rest := []) hx hb hml hown hts (c_M_begin l D G A ([hq_ai fha (G 0) 12 (upd fh1 k1 (hq_hash tx pq (hq_fnd tx 58 pq ((hq_fnd tx 32 pq (j - pq)) - pq)) sd)), hq_ai fva (G 0) 12 (upd fv1 k1 (Int64.toInt32 (f_M_clip (((Int32.toInt64 (f_M_amount tx pq (hq_fnd tx 32 pq (j - pq)))) * (Int32.toInt64 sc)) / 100) 99999))), hq_ai fla (G 0) 12 (upd fl1 k1 sg)] ++ Z) h ([.int (nI n), .int kd, .int ru, .ref ya, .int (nI sz), .ref ta, .ref la, .int (nI rg), .int (nI so), .int (hq_z bg), .int (nI nc), .ref lfa, .ref rta, .int lb, .int wo, .int (nI (k1 + 1)), .ref fha, .ref fva, .ref fla, .int (nI sp), .int (nI tc), .ref tha, .ref tva, .ref wa, .ref sa, .ref ca, .ref va, .long tt, .int ld, .long pt, .long pw, .int (nI rc), .ref ra, .int wn]) ta tx (hq_fnd tx 32 pq (j - pq)) j (by first | assumption | rfl) (by first | assumption | omega) (by first | assumption | omega)) yy_M_begin lk_M_103 hA hK hN hS hPc hDc 0 8 rfl rfl rfl hl.1 rfl (Nat.le_of_ble_eq_true rfl) d_M_namespace_208 ⟨by decide, by decide⟩ ⟨by decide, by decide⟩) hS (fun H locs hP hD hS => ?_)
                have hP : va_P D hq_cl ([hq_o8 h (nI n) kd ru ya (nI sz) ta la (nI rg) (nI so) (hq_z bg) (nI nc) lfa rta lb wo (nI (k1 + 1)) fha fva fla (nI sp) (nI tc) tha tva wa sa ca va tt ld pt pw (nI rc) ra wn, hq_ai ta (G 0) 2000 tx, hq_ai fha (G 0) 12 (upd fh1 k1 (hq_hash tx pq (hq_fnd tx 58 pq ((hq_fnd tx 32 pq (j - pq)) - pq)) sd)), hq_ai fva (G 0) 12 (upd fv1 k1 (Int64.toInt32 (f_M_clip (((Int32.toInt64 (f_M_amount tx pq (hq_fnd tx 32 pq (j - pq)))) * (Int32.toInt64 sc)) / 100) 99999))), hq_ai fla (G 0) 12 (upd fl1 k1 sg)] ++ Z) H := hP
                have hD : va_D A ([hq_o8 h (nI n) kd ru ya (nI sz) ta la (nI rg) (nI so) (hq_z bg) (nI nc) lfa rta lb wo (nI (k1 + 1)) fha fva fla (nI sp) (nI tc) tha tva wa sa ca va tt ld pt pw (nI rc) ra wn, hq_ai ta (G 0) 2000 tx, hq_ai fha (G 0) 12 (upd fh1 k1 (hq_hash tx pq (hq_fnd tx 58 pq ((hq_fnd tx 32 pq (j - pq)) - pq)) sd)), hq_ai fva (G 0) 12 (upd fv1 k1 (Int64.toInt32 (f_M_clip (((Int32.toInt64 (f_M_amount tx pq (hq_fnd tx 32 pq (j - pq)))) * (Int32.toInt64 sc)) / 100) 99999))), hq_ai fla (G 0) 12 (upd fl1 k1 sg)] ++ Z) := hD
                have hp6 := hq_skp_le tx 32 (j - (hq_fnd tx 32 pq (j - pq))) (hq_fnd tx 32 pq (j - pq))
                have hp7 := hq_skp_at tx 32 (j - (hq_fnd tx 32 pq (j - pq))) (hq_fnd tx 32 pq (j - pq))
                refine lv_istore (nL := 11) (lv' := [(8, .int (nI (hq_skp tx 32 (hq_fnd tx 32 pq (j - pq)) (j - (hq_fnd tx 32 pq (j - pq)))))), (7, .int 0), (10, .int (f_M_nameEnd tx pq (hq_fnd tx 32 pq (j - pq)))), (9, .int (nI (hq_fnd tx 32 pq (j - pq)))), (0, .ref h), (2, .int (nI j)), (4, .int sd), (5, .int sg), (6, .int sc)]) hx hb d_M_namespace_211 hl (by decide) rfl (fun ls hl => ?_)
                refine lv_goto (tgt := 44) hx hb d_M_namespace_213 rfl ?_
                exact ih _ (by omega) false sd sg sc (hq_skp tx 32 (hq_fnd tx 32 pq (j - pq)) (j - (hq_fnd tx 32 pq (j - pq)))) (upd fh1 k1 (hq_hash tx pq (hq_fnd tx 58 pq ((hq_fnd tx 32 pq (j - pq)) - pq)) sd)) (upd fv1 k1 (Int64.toInt32 (f_M_clip (((Int32.toInt64 (f_M_amount tx pq (hq_fnd tx 32 pq (j - pq)))) * (Int32.toInt64 sc)) / 100) 99999))) (upd fl1 k1 sg) (k1 + 1) (L1 ++ [hq_fx tx sg sd sc pq (hq_fnd tx 32 pq (j - pq))]) ls H locs rfl (by first | assumption | omega) (fun h9 => hp7 (by omega)) (by first | assumption | omega) (hq_rep_fx hr1 (by omega) c71) (hq_nsI_next hF hr1 c76 c85 (by omega) (by omega) c71) (lv_sub hl [4, 5, 6, 7, 8, 1, 0] rfl) hP hD hS
              · -- 92 not taken
                have c92 : fst = true := hq_zn.mp c92
                exact absurd c92 c76
            · -- 85 not taken
              have c85 : ¬ k1 < 12 := fun h => c85 ((nI_ltI (a := k1) (b := 12) (by omega) (by omega)).mpr h)
              refine lv_iconst (v := 0) hx hb d_M_namespace_88 (by decide) ?_
              exact hret 0 (fh1, fv1, fl1, k1) H locs 89 ls d_M_namespace_89 (⟨by first | (rw [hq_nsI_bad hF (show pq < j by omega) (by omega) c71] <;> rfl) | (rw [hq_nsI_full hF hr1 (show pq < j by omega) c76 c85] <;> rfl), hk1, fun L9 h9 => by first | (rw [hq_nsI_bad hF (show pq < j by omega) (by omega) c71] at h9; cases h9) | (rw [hq_nsI_full hF hr1 (show pq < j by omega) c76 c85] at h9; cases h9)⟩) hP hD hS
  refine lv_iload_n hx hb d_M_namespace_0 rfl (lv_at hl 1 rfl) ?_
  refine lv_iload_n hx hb d_M_namespace_1 rfl (lv_at hl 2 rfl) ?_
  refine lv_icmp_ge (tgt := 20) hx hb d_M_namespace_2 rfl (fun c2 => ?_) (fun c2 => ?_)
  · -- 2 taken
    have c2 : j ≤ i := (nI_leI (a := j) (b := i) (by omega) (by omega)).mp c2
    refine lv_iconst (v := 0) hx hb d_M_namespace_20 (by decide) ?_
    refine lv_istore_n (nL := 11) (lv' := [(3, .int 0), (0, .ref h), (1, .int (nI i)), (2, .int (nI j))]) hx hb d_M_namespace_21 rfl hl (by decide) rfl (fun ls hl => ?_)
    refine lv_iconst (v := 0) hx hb d_M_namespace_22 (by decide) ?_
    refine lv_istore (nL := 11) (lv' := [(4, .int 0), (3, .int 0), (0, .ref h), (1, .int (nI i)), (2, .int (nI j))]) hx hb d_M_namespace_23 hl (by decide) rfl (fun ls hl => ?_)
    refine lv_bipush (v := 32) hx hb d_M_namespace_25 (by decide) ?_
    refine lv_istore (nL := 11) (lv' := [(5, .int 32), (4, .int 0), (3, .int 0), (0, .ref h), (1, .int (nI i)), (2, .int (nI j))]) hx hb d_M_namespace_27 hl (by decide) rfl (fun ls hl => ?_)
    refine lv_bipush (v := 100) hx hb d_M_namespace_29 (by decide) ?_
    refine lv_istore (nL := 11) (lv' := [(6, .int 100), (5, .int 32), (4, .int 0), (3, .int 0), (0, .ref h), (1, .int (nI i)), (2, .int (nI j))]) hx hb d_M_namespace_31 hl (by decide) rfl (fun ls hl => ?_)
    refine lv_iload_n hx hb d_M_namespace_33 rfl (lv_at hl 3 rfl) ?_
    refine lv_istore (nL := 11) (lv' := [(7, .int 0), (6, .int 100), (5, .int 32), (4, .int 0), (3, .int 0), (0, .ref h), (1, .int (nI i)), (2, .int (nI j))]) hx hb d_M_namespace_34 hl (by decide) rfl (fun ls hl => ?_)
    refine lv_aload_n hx hb d_M_namespace_36 rfl (lv_at hl 5 rfl) ?_
    refine lv_iload_n hx hb d_M_namespace_37 rfl (lv_at hl 6 rfl) ?_
    refine lv_iload_n hx hb d_M_namespace_38 rfl (lv_at hl 7 rfl) ?_
    have hPc : va_P D hq_cl ([hq_o8 h (nI n) kd ru ya (nI sz) ta la (nI rg) (nI so) (hq_z bg) (nI nc) lfa rta lb wo (nI ft) fha fva fla (nI sp) (nI tc) tha tva wa sa ca va tt ld pt pw (nI rc) ra wn, hq_ai ta (G 0) 2000 tx] ++ ([hq_ai fha (G 0) 12 fh, hq_ai fva (G 0) 12 fv, hq_ai fla (G 0) 12 fl] ++ Z)) H := hP
    have hDc : va_D A ([hq_o8 h (nI n) kd ru ya (nI sz) ta la (nI rg) (nI so) (hq_z bg) (nI nc) lfa rta lb wo (nI ft) fha fva fla (nI sp) (nI tc) tha tva wa sa ca va tt ld pt pw (nI rc) ra wn, hq_ai ta (G 0) 2000 tx] ++ ([hq_ai fha (G 0) 12 fh, hq_ai fva (G 0) 12 fv, hq_ai fla (G 0) 12 fl] ++ Z)) := hD
    refine hq_iF (hq_rV (As := [.int (nI i), .int (nI j)]) (rest := []) hx hb hml hown hts (c_M_begin l D G A ([hq_ai fha (G 0) 12 fh, hq_ai fva (G 0) 12 fv, hq_ai fla (G 0) 12 fl] ++ Z) h ([.int (nI n), .int kd, .int ru, .ref ya, .int (nI sz), .ref ta, .ref la, .int (nI rg), .int (nI so), .int (hq_z bg), .int (nI nc), .ref lfa, .ref rta, .int lb, .int wo, .int (nI ft), .ref fha, .ref fva, .ref fla, .int (nI sp), .int (nI tc), .ref tha, .ref tva, .ref wa, .ref sa, .ref ca, .ref va, .long tt, .int ld, .long pt, .long pw, .int (nI rc), .ref ra, .int wn]) ta tx i j (by first | assumption | rfl) (by first | assumption | omega) (by first | assumption | omega)) yy_M_begin lk_M_103 hA hK hN hS hPc hDc 0 8 rfl rfl rfl hl.1 rfl (Nat.le_of_ble_eq_true rfl) d_M_namespace_39 ⟨by decide, by decide⟩ ⟨by decide, by decide⟩) hS (fun H locs hP hD hS => ?_)
    have hP : va_P D hq_cl ([hq_o8 h (nI n) kd ru ya (nI sz) ta la (nI rg) (nI so) (hq_z bg) (nI nc) lfa rta lb wo (nI ft) fha fva fla (nI sp) (nI tc) tha tva wa sa ca va tt ld pt pw (nI rc) ra wn, hq_ai ta (G 0) 2000 tx, hq_ai fha (G 0) 12 fh, hq_ai fva (G 0) 12 fv, hq_ai fla (G 0) 12 fl] ++ Z) H := hP
    have hD : va_D A ([hq_o8 h (nI n) kd ru ya (nI sz) ta la (nI rg) (nI so) (hq_z bg) (nI nc) lfa rta lb wo (nI ft) fha fva fla (nI sp) (nI tc) tha tva wa sa ca va tt ld pt pw (nI rc) ra wn, hq_ai ta (G 0) 2000 tx, hq_ai fha (G 0) 12 fh, hq_ai fva (G 0) 12 fv, hq_ai fla (G 0) 12 fl] ++ Z) := hD
    have hp0 := hq_skp_le tx 32 (j - i) i
    have hp1 := hq_skp_at tx 32 (j - i) i
    refine lv_istore (nL := 11) (lv' := [(8, .int (nI (hq_skp tx 32 i (j - i)))), (7, .int 0), (6, .int 100), (5, .int 32), (4, .int 0), (3, .int 0), (0, .ref h), (1, .int (nI i)), (2, .int (nI j))]) hx hb d_M_namespace_42 hl (by decide) rfl (fun ls hl => ?_)
    exact cut44 _ false 0 32 100 (hq_skp tx 32 i (j - i)) fh fv fl ft Lf ls H locs rfl (by first | assumption | omega) (fun h9 => hp1 (by omega)) (by first | assumption | omega) (hrep) (hq_nsI_un1 c2 hi) (lv_sub hl [6, 8, 4, 3, 2, 1, 0] rfl) hP hD hS
  · -- 2 not taken
    have c2 : ¬ j ≤ i := fun h => c2 ((nI_leI (a := j) (b := i) (by omega) (by omega)).mpr h)
    refine lv_aload_n hx hb d_M_namespace_5 rfl (lv_at hl 0 rfl) ?_
    refine va_get (D := D) (ci := 8) (v := .ref ta) (C := R_M) (T := F_M) (N := 34) hx hb hts uw_M hown hK hP 0 rfl rfl 5 (by decide) (hts _ fl_M_13) (fun _ h9 => h9) rfl d_M_namespace_6 ?_
    refine lv_iload_n hx hb d_M_namespace_9 rfl (lv_at hl 1 rfl) ?_
    refine hq_iald (j := i) hx hb hK hP 1 rfl (by omega) (by omega) d_M_namespace_10 ?_
    refine lv_bipush (v := 32) hx hb d_M_namespace_11 (by decide) ?_
    refine lv_icmp_eq (tgt := 20) hx hb d_M_namespace_13 rfl (fun c13 => ?_) (fun c13 => ?_)
    · -- 13 taken
      have c13 : (tx i) = 32 := c13
      refine lv_iconst (v := 0) hx hb d_M_namespace_20 (by decide) ?_
      refine lv_istore_n (nL := 11) (lv' := [(3, .int 0), (0, .ref h), (1, .int (nI i)), (2, .int (nI j))]) hx hb d_M_namespace_21 rfl hl (by decide) rfl (fun ls hl => ?_)
      refine lv_iconst (v := 0) hx hb d_M_namespace_22 (by decide) ?_
      refine lv_istore (nL := 11) (lv' := [(4, .int 0), (3, .int 0), (0, .ref h), (1, .int (nI i)), (2, .int (nI j))]) hx hb d_M_namespace_23 hl (by decide) rfl (fun ls hl => ?_)
      refine lv_bipush (v := 32) hx hb d_M_namespace_25 (by decide) ?_
      refine lv_istore (nL := 11) (lv' := [(5, .int 32), (4, .int 0), (3, .int 0), (0, .ref h), (1, .int (nI i)), (2, .int (nI j))]) hx hb d_M_namespace_27 hl (by decide) rfl (fun ls hl => ?_)
      refine lv_bipush (v := 100) hx hb d_M_namespace_29 (by decide) ?_
      refine lv_istore (nL := 11) (lv' := [(6, .int 100), (5, .int 32), (4, .int 0), (3, .int 0), (0, .ref h), (1, .int (nI i)), (2, .int (nI j))]) hx hb d_M_namespace_31 hl (by decide) rfl (fun ls hl => ?_)
      refine lv_iload_n hx hb d_M_namespace_33 rfl (lv_at hl 3 rfl) ?_
      refine lv_istore (nL := 11) (lv' := [(7, .int 0), (6, .int 100), (5, .int 32), (4, .int 0), (3, .int 0), (0, .ref h), (1, .int (nI i)), (2, .int (nI j))]) hx hb d_M_namespace_34 hl (by decide) rfl (fun ls hl => ?_)
      refine lv_aload_n hx hb d_M_namespace_36 rfl (lv_at hl 5 rfl) ?_
      refine lv_iload_n hx hb d_M_namespace_37 rfl (lv_at hl 6 rfl) ?_
      refine lv_iload_n hx hb d_M_namespace_38 rfl (lv_at hl 7 rfl) ?_
      have hPc : va_P D hq_cl ([hq_o8 h (nI n) kd ru ya (nI sz) ta la (nI rg) (nI so) (hq_z bg) (nI nc) lfa rta lb wo (nI ft) fha fva fla (nI sp) (nI tc) tha tva wa sa ca va tt ld pt pw (nI rc) ra wn, hq_ai ta (G 0) 2000 tx] ++ ([hq_ai fha (G 0) 12 fh, hq_ai fva (G 0) 12 fv, hq_ai fla (G 0) 12 fl] ++ Z)) H := hP
      have hDc : va_D A ([hq_o8 h (nI n) kd ru ya (nI sz) ta la (nI rg) (nI so) (hq_z bg) (nI nc) lfa rta lb wo (nI ft) fha fva fla (nI sp) (nI tc) tha tva wa sa ca va tt ld pt pw (nI rc) ra wn, hq_ai ta (G 0) 2000 tx] ++ ([hq_ai fha (G 0) 12 fh, hq_ai fva (G 0) 12 fv, hq_ai fla (G 0) 12 fl] ++ Z)) := hD
      refine hq_iF (hq_rV (As := [.int (nI i), .int (nI j)]) (rest := []) hx hb hml hown hts (c_M_begin l D G A ([hq_ai fha (G 0) 12 fh, hq_ai fva (G 0) 12 fv, hq_ai fla (G 0) 12 fl] ++ Z) h ([.int (nI n), .int kd, .int ru, .ref ya, .int (nI sz), .ref ta, .ref la, .int (nI rg), .int (nI so), .int (hq_z bg), .int (nI nc), .ref lfa, .ref rta, .int lb, .int wo, .int (nI ft), .ref fha, .ref fva, .ref fla, .int (nI sp), .int (nI tc), .ref tha, .ref tva, .ref wa, .ref sa, .ref ca, .ref va, .long tt, .int ld, .long pt, .long pw, .int (nI rc), .ref ra, .int wn]) ta tx i j (by first | assumption | rfl) (by first | assumption | omega) (by first | assumption | omega)) yy_M_begin lk_M_103 hA hK hN hS hPc hDc 0 8 rfl rfl rfl hl.1 rfl (Nat.le_of_ble_eq_true rfl) d_M_namespace_39 ⟨by decide, by decide⟩ ⟨by decide, by decide⟩) hS (fun H locs hP hD hS => ?_)
      have hP : va_P D hq_cl ([hq_o8 h (nI n) kd ru ya (nI sz) ta la (nI rg) (nI so) (hq_z bg) (nI nc) lfa rta lb wo (nI ft) fha fva fla (nI sp) (nI tc) tha tva wa sa ca va tt ld pt pw (nI rc) ra wn, hq_ai ta (G 0) 2000 tx, hq_ai fha (G 0) 12 fh, hq_ai fva (G 0) 12 fv, hq_ai fla (G 0) 12 fl] ++ Z) H := hP
      have hD : va_D A ([hq_o8 h (nI n) kd ru ya (nI sz) ta la (nI rg) (nI so) (hq_z bg) (nI nc) lfa rta lb wo (nI ft) fha fva fla (nI sp) (nI tc) tha tva wa sa ca va tt ld pt pw (nI rc) ra wn, hq_ai ta (G 0) 2000 tx, hq_ai fha (G 0) 12 fh, hq_ai fva (G 0) 12 fv, hq_ai fla (G 0) 12 fl] ++ Z) := hD
      have hp0 := hq_skp_le tx 32 (j - i) i
      have hp1 := hq_skp_at tx 32 (j - i) i
      refine lv_istore (nL := 11) (lv' := [(8, .int (nI (hq_skp tx 32 i (j - i)))), (7, .int 0), (6, .int 100), (5, .int 32), (4, .int 0), (3, .int 0), (0, .ref h), (1, .int (nI i)), (2, .int (nI j))]) hx hb d_M_namespace_42 hl (by decide) rfl (fun ls hl => ?_)
      exact cut44 _ false 0 32 100 (hq_skp tx 32 i (j - i)) fh fv fl ft Lf ls H locs rfl (by first | assumption | omega) (fun h9 => hp1 (by omega)) (by first | assumption | omega) (hrep) (hq_nsI_un2 c2 c13) (lv_sub hl [6, 8, 4, 3, 2, 1, 0] rfl) hP hD hS
    · -- 13 not taken
      have c13 : ¬ (tx i) = 32 := c13
      refine lv_iconst (v := 1) hx hb d_M_namespace_16 (by decide) ?_
      refine lv_goto (tgt := 21) hx hb d_M_namespace_17 rfl ?_
      refine lv_istore_n (nL := 11) (lv' := [(3, .int 1), (0, .ref h), (1, .int (nI i)), (2, .int (nI j))]) hx hb d_M_namespace_21 rfl hl (by decide) rfl (fun ls hl => ?_)
      refine lv_iconst (v := 0) hx hb d_M_namespace_22 (by decide) ?_
      refine lv_istore (nL := 11) (lv' := [(4, .int 0), (3, .int 1), (0, .ref h), (1, .int (nI i)), (2, .int (nI j))]) hx hb d_M_namespace_23 hl (by decide) rfl (fun ls hl => ?_)
      refine lv_bipush (v := 32) hx hb d_M_namespace_25 (by decide) ?_
      refine lv_istore (nL := 11) (lv' := [(5, .int 32), (4, .int 0), (3, .int 1), (0, .ref h), (1, .int (nI i)), (2, .int (nI j))]) hx hb d_M_namespace_27 hl (by decide) rfl (fun ls hl => ?_)
      refine lv_bipush (v := 100) hx hb d_M_namespace_29 (by decide) ?_
      refine lv_istore (nL := 11) (lv' := [(6, .int 100), (5, .int 32), (4, .int 0), (3, .int 1), (0, .ref h), (1, .int (nI i)), (2, .int (nI j))]) hx hb d_M_namespace_31 hl (by decide) rfl (fun ls hl => ?_)
      refine lv_iload_n hx hb d_M_namespace_33 rfl (lv_at hl 3 rfl) ?_
      refine lv_istore (nL := 11) (lv' := [(7, .int 1), (6, .int 100), (5, .int 32), (4, .int 0), (3, .int 1), (0, .ref h), (1, .int (nI i)), (2, .int (nI j))]) hx hb d_M_namespace_34 hl (by decide) rfl (fun ls hl => ?_)
      refine lv_aload_n hx hb d_M_namespace_36 rfl (lv_at hl 5 rfl) ?_
      refine lv_iload_n hx hb d_M_namespace_37 rfl (lv_at hl 6 rfl) ?_
      refine lv_iload_n hx hb d_M_namespace_38 rfl (lv_at hl 7 rfl) ?_
      have hPc : va_P D hq_cl ([hq_o8 h (nI n) kd ru ya (nI sz) ta la (nI rg) (nI so) (hq_z bg) (nI nc) lfa rta lb wo (nI ft) fha fva fla (nI sp) (nI tc) tha tva wa sa ca va tt ld pt pw (nI rc) ra wn, hq_ai ta (G 0) 2000 tx] ++ ([hq_ai fha (G 0) 12 fh, hq_ai fva (G 0) 12 fv, hq_ai fla (G 0) 12 fl] ++ Z)) H := hP
      have hDc : va_D A ([hq_o8 h (nI n) kd ru ya (nI sz) ta la (nI rg) (nI so) (hq_z bg) (nI nc) lfa rta lb wo (nI ft) fha fva fla (nI sp) (nI tc) tha tva wa sa ca va tt ld pt pw (nI rc) ra wn, hq_ai ta (G 0) 2000 tx] ++ ([hq_ai fha (G 0) 12 fh, hq_ai fva (G 0) 12 fv, hq_ai fla (G 0) 12 fl] ++ Z)) := hD
      refine hq_iF (hq_rV (As := [.int (nI i), .int (nI j)]) (rest := []) hx hb hml hown hts (c_M_begin l D G A ([hq_ai fha (G 0) 12 fh, hq_ai fva (G 0) 12 fv, hq_ai fla (G 0) 12 fl] ++ Z) h ([.int (nI n), .int kd, .int ru, .ref ya, .int (nI sz), .ref ta, .ref la, .int (nI rg), .int (nI so), .int (hq_z bg), .int (nI nc), .ref lfa, .ref rta, .int lb, .int wo, .int (nI ft), .ref fha, .ref fva, .ref fla, .int (nI sp), .int (nI tc), .ref tha, .ref tva, .ref wa, .ref sa, .ref ca, .ref va, .long tt, .int ld, .long pt, .long pw, .int (nI rc), .ref ra, .int wn]) ta tx i j (by first | assumption | rfl) (by first | assumption | omega) (by first | assumption | omega)) yy_M_begin lk_M_103 hA hK hN hS hPc hDc 0 8 rfl rfl rfl hl.1 rfl (Nat.le_of_ble_eq_true rfl) d_M_namespace_39 ⟨by decide, by decide⟩ ⟨by decide, by decide⟩) hS (fun H locs hP hD hS => ?_)
      have hP : va_P D hq_cl ([hq_o8 h (nI n) kd ru ya (nI sz) ta la (nI rg) (nI so) (hq_z bg) (nI nc) lfa rta lb wo (nI ft) fha fva fla (nI sp) (nI tc) tha tva wa sa ca va tt ld pt pw (nI rc) ra wn, hq_ai ta (G 0) 2000 tx, hq_ai fha (G 0) 12 fh, hq_ai fva (G 0) 12 fv, hq_ai fla (G 0) 12 fl] ++ Z) H := hP
      have hD : va_D A ([hq_o8 h (nI n) kd ru ya (nI sz) ta la (nI rg) (nI so) (hq_z bg) (nI nc) lfa rta lb wo (nI ft) fha fva fla (nI sp) (nI tc) tha tva wa sa ca va tt ld pt pw (nI rc) ra wn, hq_ai ta (G 0) 2000 tx, hq_ai fha (G 0) 12 fh, hq_ai fva (G 0) 12 fv, hq_ai fla (G 0) 12 fl] ++ Z) := hD
      have hp0 := hq_skp_le tx 32 (j - i) i
      have hp1 := hq_skp_at tx 32 (j - i) i
      refine lv_istore (nL := 11) (lv' := [(8, .int (nI (hq_skp tx 32 i (j - i)))), (7, .int 1), (6, .int 100), (5, .int 32), (4, .int 0), (3, .int 1), (0, .ref h), (1, .int (nI i)), (2, .int (nI j))]) hx hb d_M_namespace_42 hl (by decide) rfl (fun ls hl => ?_)
      exact cut44 _ true 0 32 100 (hq_skp tx 32 i (j - i)) fh fv fl ft Lf ls H locs rfl (by first | assumption | omega) (fun h9 => hp1 (by omega)) (by first | assumption | omega) (hrep) (hq_nsI_t c2 c13) (lv_sub hl [6, 8, 4, 3, 2, 1, 0] rfl) hP hD hS
