theorem d_M_copyLine_0 : decode b_M_copyLine 0 = .ok (.aload_n 0, 1) := by decide +kernel
theorem d_M_copyLine_1 : decode b_M_copyLine 1 = .ok (.getfield 16, 3) := by decide +kernel
theorem d_M_copyLine_4 : decode b_M_copyLine 4 = .ok (.iload_n 2, 1) := by decide +kernel
theorem d_M_copyLine_5 : decode b_M_copyLine 5 = .ok (.aload_n 0, 1) := by decide +kernel
theorem d_M_copyLine_6 : decode b_M_copyLine 6 = .ok (.getfield 16, 3) := by decide +kernel
theorem d_M_copyLine_9 : decode b_M_copyLine 9 = .ok (.iload_n 1, 1) := by decide +kernel
theorem d_M_copyLine_10 : decode b_M_copyLine 10 = .ok (.iaload, 1) := by decide +kernel
theorem d_M_copyLine_11 : decode b_M_copyLine 11 = .ok (.iastore, 1) := by decide +kernel
theorem d_M_copyLine_12 : decode b_M_copyLine 12 = .ok (.iconst 0, 1) := by decide +kernel
theorem d_M_copyLine_13 : decode b_M_copyLine 13 = .ok (.istore_n 3, 1) := by decide +kernel
theorem d_M_copyLine_14 : decode b_M_copyLine 14 = .ok (.iload_n 3, 1) := by decide +kernel
theorem d_M_copyLine_15 : decode b_M_copyLine 15 = .ok (.bipush (100), 2) := by decide +kernel
theorem d_M_copyLine_17 : decode b_M_copyLine 17 = .ok (.if_icmp .ge (31), 3) := by decide +kernel
theorem d_M_copyLine_20 : decode b_M_copyLine 20 = .ok (.aload_n 0, 1) := by decide +kernel
theorem d_M_copyLine_21 : decode b_M_copyLine 21 = .ok (.getfield 13, 3) := by decide +kernel
theorem d_M_copyLine_24 : decode b_M_copyLine 24 = .ok (.bipush (100), 2) := by decide +kernel
theorem d_M_copyLine_26 : decode b_M_copyLine 26 = .ok (.iload_n 2, 1) := by decide +kernel
theorem d_M_copyLine_27 : decode b_M_copyLine 27 = .ok (.imul, 1) := by decide +kernel
theorem d_M_copyLine_28 : decode b_M_copyLine 28 = .ok (.iload_n 3, 1) := by decide +kernel
theorem d_M_copyLine_29 : decode b_M_copyLine 29 = .ok (.iadd, 1) := by decide +kernel
theorem d_M_copyLine_30 : decode b_M_copyLine 30 = .ok (.aload_n 0, 1) := by decide +kernel
theorem d_M_copyLine_31 : decode b_M_copyLine 31 = .ok (.getfield 13, 3) := by decide +kernel
theorem d_M_copyLine_34 : decode b_M_copyLine 34 = .ok (.bipush (100), 2) := by decide +kernel
theorem d_M_copyLine_36 : decode b_M_copyLine 36 = .ok (.iload_n 1, 1) := by decide +kernel
theorem d_M_copyLine_37 : decode b_M_copyLine 37 = .ok (.imul, 1) := by decide +kernel
theorem d_M_copyLine_38 : decode b_M_copyLine 38 = .ok (.iload_n 3, 1) := by decide +kernel
theorem d_M_copyLine_39 : decode b_M_copyLine 39 = .ok (.iadd, 1) := by decide +kernel
theorem d_M_copyLine_40 : decode b_M_copyLine 40 = .ok (.iaload, 1) := by decide +kernel
theorem d_M_copyLine_41 : decode b_M_copyLine 41 = .ok (.iastore, 1) := by decide +kernel
theorem d_M_copyLine_42 : decode b_M_copyLine 42 = .ok (.iinc 3 (1), 3) := by decide +kernel
theorem d_M_copyLine_45 : decode b_M_copyLine 45 = .ok (.goto (-31), 3) := by decide +kernel
theorem d_M_copyLine_48 : decode b_M_copyLine 48 = .ok (.return_, 1) := by decide +kernel
set_option maxHeartbeats 4000000 in
set_option maxRecDepth 100000 in
theorem c_M_copyLine (l : Launch) (D : va_G) (G : Nat → ClassId) (A : Nat → Prop) (Z : va_W) (h : Nat) (n : Nat) (kd : Int32) (ru : Int32) (ya : Nat) (sz : Nat) (ta : Nat) (la : Nat) (rg : Nat) (so : Nat) (bg : Bool) (nc : Nat) (lfa : Nat) (rta : Nat) (lb : Int32) (wo : Int32) (ft : Nat) (fha : Nat) (fva : Nat) (fla : Nat) (sp : Nat) (tc : Nat) (tha : Nat) (tva : Nat) (wa : Nat) (sa : Nat) (ca : Nat) (va : Nat) (tt : Int64) (ld : Int32) (pt : Int64) (pw : Int64) (rc : Nat) (ra : Nat) (wn : Int32) (ln : Nat → Int32) (tx : Nat → Int32) (i : Nat) (j : Nat) (hi : i < 20) (hj : j < 20) (hne : ¬ i = j) : hq_FV l D G A y_M_copyLine b_M_copyLine 4 0 [.ref h, .int (nI i), .int (nI j)] ([hq_o8 h (nI n) kd ru ya (nI sz) ta la (nI rg) (nI so) (hq_z bg) (nI nc) lfa rta lb wo (nI ft) fha fva fla (nI sp) (nI tc) tha tva wa sa ca va tt ld pt pw (nI rc) ra wn, hq_ai la (G 0) 20 ln, hq_ai ta (G 0) 2000 tx] ++ Z) ([hq_o8 h (nI n) kd ru ya (nI sz) ta la (nI rg) (nI so) (hq_z bg) (nI nc) lfa rta lb wo (nI ft) fha fva fla (nI sp) (nI tc) tha tva wa sa ca va tt ld pt pw (nI rc) ra wn, hq_ai la (G 0) 20 (upd ln j (ln i)), hq_ai ta (G 0) 2000 (hq_cpT tx i j 100)] ++ Z) := by
  refine hq_bV (by decide) (Nat.le_of_ble_eq_true rfl) ?_
  intro p e s m args below meth c Q hx hb hml hts hown hA hK hN hin hret ls H locs hl hP hD hS
  have hown : s.vm.findClass "HashedLearnerModel" = some m.cls := hown
  have hl : lv_has ls 4 [(0, .ref h), (1, .int (nI i)), (2, .int (nI j))] := hl
  refine lv_aload_n hx hb d_M_copyLine_0 rfl (lv_at hl 0 rfl) ?_
  refine va_get (D := D) (ci := 8) (v := .ref la) (C := R_M) (T := F_M) (N := 34) hx hb hts uw_M hown hK hP 0 rfl rfl 6 (by decide) (hts _ fl_M_16) (fun _ h9 => h9) rfl d_M_copyLine_1 ?_
  refine lv_iload_n hx hb d_M_copyLine_4 rfl (lv_at hl 2 rfl) ?_
  refine lv_aload_n hx hb d_M_copyLine_5 rfl (lv_at hl 0 rfl) ?_
  refine va_get (D := D) (ci := 8) (v := .ref la) (C := R_M) (T := F_M) (N := 34) hx hb hts uw_M hown hK hP 0 rfl rfl 6 (by decide) (hts _ fl_M_16) (fun _ h9 => h9) rfl d_M_copyLine_6 ?_
  refine lv_iload_n hx hb d_M_copyLine_9 rfl (lv_at hl 1 rfl) ?_
  refine hq_iald (j := i) hx hb hK hP 1 rfl (by omega) (by omega) d_M_copyLine_10 ?_
  refine hq_iast (j := j) hx hb hK hP hD hS 1 rfl (by omega) (by omega) d_M_copyLine_11 (fun H locs hP hD hS => ?_)
  have hP : va_P D hq_cl ([hq_o8 h (nI n) kd ru ya (nI sz) ta la (nI rg) (nI so) (hq_z bg) (nI nc) lfa rta lb wo (nI ft) fha fva fla (nI sp) (nI tc) tha tva wa sa ca va tt ld pt pw (nI rc) ra wn, hq_ai la (G 0) 20 (upd ln j (ln i)), hq_ai ta (G 0) 2000 tx] ++ Z) H := hP
  have hD : va_D A ([hq_o8 h (nI n) kd ru ya (nI sz) ta la (nI rg) (nI so) (hq_z bg) (nI nc) lfa rta lb wo (nI ft) fha fva fla (nI sp) (nI tc) tha tva wa sa ca va tt ld pt pw (nI rc) ra wn, hq_ai la (G 0) 20 (upd ln j (ln i)), hq_ai ta (G 0) 2000 tx] ++ Z) := hD
  refine lv_iconst (v := nI 0) hx hb d_M_copyLine_12 (by decide) ?_
  refine lv_istore_n (nL := 4) (lv' := [(3, .int (nI 0)), (0, .ref h), (1, .int (nI i)), (2, .int (nI j))]) hx hb d_M_copyLine_13 rfl hl (by decide) rfl (fun ls hl => ?_)
  have cut14 : ∀ (kz : Nat) (q : Nat) (ls : Array Slot) (H : Heap) (locs : List Loc), 100 - q = kz → (q ≤ 100) → lv_has ls 4 [(0, .ref h), (1, .int (nI i)), (2, .int (nI j)), (3, .int (nI q))] → va_P D hq_cl ([hq_o8 h (nI n) kd ru ya (nI sz) ta la (nI rg) (nI so) (hq_z bg) (nI nc) lfa rta lb wo (nI ft) fha fva fla (nI sp) (nI tc) tha tva wa sa ca va tt ld pt pw (nI rc) ra wn, hq_ai la (G 0) 20 (upd ln j (ln i)), hq_ai ta (G 0) 2000 (hq_cpT tx i j q)] ++ Z) H → va_D A ([hq_o8 h (nI n) kd ru ya (nI sz) ta la (nI rg) (nI so) (hq_z bg) (nI nc) lfa rta lb wo (nI ft) fha fva fla (nI sp) (nI tc) tha tva wa sa ca va tt ld pt pw (nI rc) ra wn, hq_ai la (G 0) 20 (upd ln j (ln i)), hq_ai ta (G 0) 2000 (hq_cpT tx i j q)] ++ Z) → va_S A s.heap H locs → W p l e (hq_rm 0 0 0) s m args below meth c H locs 0 0 Q (F0 m 14 ls []) := by
    intro kz
    induction kz using Nat.strongRecOn with
    | ind kz ih =>
      intro q ls H locs hkz hq hl hP hD hS
      subst hkz
      refine lv_iload_n hx hb d_M_copyLine_14 rfl (lv_at hl 3 rfl) ?_
      refine lv_bipush (v := 100) hx hb d_M_copyLine_15 (by decide) ?_
      refine lv_icmp_ge (tgt := 48) hx hb d_M_copyLine_17 rfl (fun c17 => ?_) (fun c17 => ?_)
      · -- 17 taken
        have c17 : 100 ≤ q := (nI_leI (a := 100) (b := q) (by omega) (by omega)).mp c17
        have e9_0 : (hq_cpT tx i j 100) = (hq_cpT tx i j q) := by rw [show q = 100 by omega]
        have hP : va_P D hq_cl ([hq_o8 h (nI n) kd ru ya (nI sz) ta la (nI rg) (nI so) (hq_z bg) (nI nc) lfa rta lb wo (nI ft) fha fva fla (nI sp) (nI tc) tha tva wa sa ca va tt ld pt pw (nI rc) ra wn, hq_ai la (G 0) 20 (upd ln j (ln i)), hq_ai ta (G 0) 2000 (hq_cpT tx i j 100)] ++ Z) H := by rw [e9_0]; exact hP
        have hD : va_D A ([hq_o8 h (nI n) kd ru ya (nI sz) ta la (nI rg) (nI so) (hq_z bg) (nI nc) lfa rta lb wo (nI ft) fha fva fla (nI sp) (nI tc) tha tva wa sa ca va tt ld pt pw (nI rc) ra wn, hq_ai la (G 0) 20 (upd ln j (ln i)), hq_ai ta (G 0) 2000 (hq_cpT tx i j 100)] ++ Z) := by rw [e9_0]; exact hD
        exact hret () H locs 48 ls d_M_copyLine_48 (trivial) hP hD hS
      · -- 17 not taken
        have c17 : ¬ 100 ≤ q := fun h => c17 ((nI_leI (a := 100) (b := q) (by omega) (by omega)).mpr h)
        refine lv_aload_n hx hb d_M_copyLine_20 rfl (lv_at hl 0 rfl) ?_
        refine va_get (D := D) (ci := 8) (v := .ref ta) (C := R_M) (T := F_M) (N := 34) hx hb hts uw_M hown hK hP 0 rfl rfl 5 (by decide) (hts _ fl_M_13) (fun _ h9 => h9) rfl d_M_copyLine_21 ?_
        refine lv_bipush (v := nI 100) hx hb d_M_copyLine_24 (by decide) ?_
        refine lv_iload_n hx hb d_M_copyLine_26 rfl (lv_at hl 2 rfl) ?_
        refine lv_imul hx hb d_M_copyLine_27 ?_
        refine hq_topi (x' := nI (100 * j)) (pk_mul 100 j) ?_
        refine lv_iload_n hx hb d_M_copyLine_28 rfl (lv_at hl 3 rfl) ?_
        refine lv_iadd hx hb d_M_copyLine_29 ?_
        refine hq_topi (x' := nI ((100 * j) + q)) (nI_add (100 * j) q) ?_
        refine lv_aload_n hx hb d_M_copyLine_30 rfl (lv_at hl 0 rfl) ?_
        refine va_get (D := D) (ci := 8) (v := .ref ta) (C := R_M) (T := F_M) (N := 34) hx hb hts uw_M hown hK hP 0 rfl rfl 5 (by decide) (hts _ fl_M_13) (fun _ h9 => h9) rfl d_M_copyLine_31 ?_
        refine lv_bipush (v := nI 100) hx hb d_M_copyLine_34 (by decide) ?_
        refine lv_iload_n hx hb d_M_copyLine_36 rfl (lv_at hl 1 rfl) ?_
        refine lv_imul hx hb d_M_copyLine_37 ?_
        refine hq_topi (x' := nI (100 * i)) (pk_mul 100 i) ?_
        refine lv_iload_n hx hb d_M_copyLine_38 rfl (lv_at hl 3 rfl) ?_
        refine lv_iadd hx hb d_M_copyLine_39 ?_
        refine hq_topi (x' := nI ((100 * i) + q)) (nI_add (100 * i) q) ?_
        refine hq_iald (j := (100 * i) + q) hx hb hK hP 2 rfl (by omega) (by omega) d_M_copyLine_40 ?_
        refine hq_iast (j := (100 * j) + q) hx hb hK hP hD hS 2 rfl (by omega) (by omega) d_M_copyLine_41 (fun H locs hP hD hS => ?_)
        have hP : va_P D hq_cl ([hq_o8 h (nI n) kd ru ya (nI sz) ta la (nI rg) (nI so) (hq_z bg) (nI nc) lfa rta lb wo (nI ft) fha fva fla (nI sp) (nI tc) tha tva wa sa ca va tt ld pt pw (nI rc) ra wn, hq_ai la (G 0) 20 (upd ln j (ln i)), hq_ai ta (G 0) 2000 (upd (hq_cpT tx i j q) ((100 * j) + q) ((hq_cpT tx i j q) ((100 * i) + q)))] ++ Z) H := hP
        have hD : va_D A ([hq_o8 h (nI n) kd ru ya (nI sz) ta la (nI rg) (nI so) (hq_z bg) (nI nc) lfa rta lb wo (nI ft) fha fva fla (nI sp) (nI tc) tha tva wa sa ca va tt ld pt pw (nI rc) ra wn, hq_ai la (G 0) 20 (upd ln j (ln i)), hq_ai ta (G 0) 2000 (upd (hq_cpT tx i j q) ((100 * j) + q) ((hq_cpT tx i j q) ((100 * i) + q)))] ++ Z) := hD
        refine lv_iinc (nL := 4) (k := 3) (v := nI (q + 1)) (lv' := [(3, .int (nI (q + 1))), (0, .ref h), (1, .int (nI i)), (2, .int (nI j))]) hx hb d_M_copyLine_42 hl rfl (nI_add q 1) (by decide) rfl (fun ls hl => ?_)
        refine lv_goto (tgt := 14) hx hb d_M_copyLine_45 rfl ?_
        have e9_0 : (hq_cpT tx i j (q + 1)) = (upd (hq_cpT tx i j q) ((100 * j) + q) ((hq_cpT tx i j q) ((100 * i) + q))) := hq_cpT_s hne (by omega)
        have hP : va_P D hq_cl ([hq_o8 h (nI n) kd ru ya (nI sz) ta la (nI rg) (nI so) (hq_z bg) (nI nc) lfa rta lb wo (nI ft) fha fva fla (nI sp) (nI tc) tha tva wa sa ca va tt ld pt pw (nI rc) ra wn, hq_ai la (G 0) 20 (upd ln j (ln i)), hq_ai ta (G 0) 2000 (hq_cpT tx i j (q + 1))] ++ Z) H := by rw [e9_0]; exact hP
        have hD : va_D A ([hq_o8 h (nI n) kd ru ya (nI sz) ta la (nI rg) (nI so) (hq_z bg) (nI nc) lfa rta lb wo (nI ft) fha fva fla (nI sp) (nI tc) tha tva wa sa ca va tt ld pt pw (nI rc) ra wn, hq_ai la (G 0) 20 (upd ln j (ln i)), hq_ai ta (G 0) 2000 (hq_cpT tx i j (q + 1))] ++ Z) := by rw [e9_0]; exact hD
        exact ih _ (by omega) (q + 1) ls H locs rfl (by first | assumption | omega) (lv_sub hl [1, 2, 3, 0] rfl) hP hD hS
  have e9_0 : (hq_cpT tx i j 0) = tx := hq_cpT_0 tx i j
  have hP : va_P D hq_cl ([hq_o8 h (nI n) kd ru ya (nI sz) ta la (nI rg) (nI so) (hq_z bg) (nI nc) lfa rta lb wo (nI ft) fha fva fla (nI sp) (nI tc) tha tva wa sa ca va tt ld pt pw (nI rc) ra wn, hq_ai la (G 0) 20 (upd ln j (ln i)), hq_ai ta (G 0) 2000 (hq_cpT tx i j 0)] ++ Z) H := by rw [e9_0]; exact hP
  have hD : va_D A ([hq_o8 h (nI n) kd ru ya (nI sz) ta la (nI rg) (nI so) (hq_z bg) (nI nc) lfa rta lb wo (nI ft) fha fva fla (nI sp) (nI tc) tha tva wa sa ca va tt ld pt pw (nI rc) ra wn, hq_ai la (G 0) 20 (upd ln j (ln i)), hq_ai ta (G 0) 2000 (hq_cpT tx i j 0)] ++ Z) := by rw [e9_0]; exact hD
  exact cut14 _ 0 ls H locs rfl (by first | assumption | omega) (lv_sub hl [1, 2, 3, 0] rfl) hP hD hS
theorem d_M_copyTable_0 : decode b_M_copyTable 0 = .ok (.iconst 0, 1) := by decide +kernel
theorem d_M_copyTable_1 : decode b_M_copyTable 1 = .ok (.istore_n 3, 1) := by decide +kernel
theorem d_M_copyTable_2 : decode b_M_copyTable 2 = .ok (.iload_n 3, 1) := by decide +kernel
theorem d_M_copyTable_3 : decode b_M_copyTable 3 = .ok (.bipush (32), 2) := by decide +kernel
theorem d_M_copyTable_5 : decode b_M_copyTable 5 = .ok (.if_icmp .ge (57), 3) := by decide +kernel
theorem d_M_copyTable_8 : decode b_M_copyTable 8 = .ok (.aload_n 0, 1) := by decide +kernel
theorem d_M_copyTable_9 : decode b_M_copyTable 9 = .ok (.getfield 40, 3) := by decide +kernel
theorem d_M_copyTable_12 : decode b_M_copyTable 12 = .ok (.iload_n 2, 1) := by decide +kernel
theorem d_M_copyTable_13 : decode b_M_copyTable 13 = .ok (.iload_n 3, 1) := by decide +kernel
theorem d_M_copyTable_14 : decode b_M_copyTable 14 = .ok (.iadd, 1) := by decide +kernel
theorem d_M_copyTable_15 : decode b_M_copyTable 15 = .ok (.aload_n 0, 1) := by decide +kernel
theorem d_M_copyTable_16 : decode b_M_copyTable 16 = .ok (.getfield 40, 3) := by decide +kernel
theorem d_M_copyTable_19 : decode b_M_copyTable 19 = .ok (.iload_n 1, 1) := by decide +kernel
theorem d_M_copyTable_20 : decode b_M_copyTable 20 = .ok (.iload_n 3, 1) := by decide +kernel
theorem d_M_copyTable_21 : decode b_M_copyTable 21 = .ok (.iadd, 1) := by decide +kernel
theorem d_M_copyTable_22 : decode b_M_copyTable 22 = .ok (.laload, 1) := by decide +kernel
theorem d_M_copyTable_23 : decode b_M_copyTable 23 = .ok (.lastore, 1) := by decide +kernel
theorem d_M_copyTable_24 : decode b_M_copyTable 24 = .ok (.aload_n 0, 1) := by decide +kernel
theorem d_M_copyTable_25 : decode b_M_copyTable 25 = .ok (.getfield 44, 3) := by decide +kernel
theorem d_M_copyTable_28 : decode b_M_copyTable 28 = .ok (.iload_n 2, 1) := by decide +kernel
theorem d_M_copyTable_29 : decode b_M_copyTable 29 = .ok (.iload_n 3, 1) := by decide +kernel
theorem d_M_copyTable_30 : decode b_M_copyTable 30 = .ok (.iadd, 1) := by decide +kernel
theorem d_M_copyTable_31 : decode b_M_copyTable 31 = .ok (.aload_n 0, 1) := by decide +kernel
theorem d_M_copyTable_32 : decode b_M_copyTable 32 = .ok (.getfield 44, 3) := by decide +kernel
theorem d_M_copyTable_35 : decode b_M_copyTable 35 = .ok (.iload_n 1, 1) := by decide +kernel
theorem d_M_copyTable_36 : decode b_M_copyTable 36 = .ok (.iload_n 3, 1) := by decide +kernel
theorem d_M_copyTable_37 : decode b_M_copyTable 37 = .ok (.iadd, 1) := by decide +kernel
theorem d_M_copyTable_38 : decode b_M_copyTable 38 = .ok (.laload, 1) := by decide +kernel
theorem d_M_copyTable_39 : decode b_M_copyTable 39 = .ok (.lastore, 1) := by decide +kernel
theorem d_M_copyTable_40 : decode b_M_copyTable 40 = .ok (.aload_n 0, 1) := by decide +kernel
theorem d_M_copyTable_41 : decode b_M_copyTable 41 = .ok (.getfield 47, 3) := by decide +kernel
theorem d_M_copyTable_44 : decode b_M_copyTable 44 = .ok (.iload_n 2, 1) := by decide +kernel
theorem d_M_copyTable_45 : decode b_M_copyTable 45 = .ok (.iload_n 3, 1) := by decide +kernel
theorem d_M_copyTable_46 : decode b_M_copyTable 46 = .ok (.iadd, 1) := by decide +kernel
theorem d_M_copyTable_47 : decode b_M_copyTable 47 = .ok (.aload_n 0, 1) := by decide +kernel
theorem d_M_copyTable_48 : decode b_M_copyTable 48 = .ok (.getfield 47, 3) := by decide +kernel
theorem d_M_copyTable_51 : decode b_M_copyTable 51 = .ok (.iload_n 1, 1) := by decide +kernel
theorem d_M_copyTable_52 : decode b_M_copyTable 52 = .ok (.iload_n 3, 1) := by decide +kernel
theorem d_M_copyTable_53 : decode b_M_copyTable 53 = .ok (.iadd, 1) := by decide +kernel
theorem d_M_copyTable_54 : decode b_M_copyTable 54 = .ok (.laload, 1) := by decide +kernel
theorem d_M_copyTable_55 : decode b_M_copyTable 55 = .ok (.lastore, 1) := by decide +kernel
theorem d_M_copyTable_56 : decode b_M_copyTable 56 = .ok (.iinc 3 (1), 3) := by decide +kernel
theorem d_M_copyTable_59 : decode b_M_copyTable 59 = .ok (.goto (-57), 3) := by decide +kernel
theorem d_M_copyTable_62 : decode b_M_copyTable 62 = .ok (.return_, 1) := by decide +kernel
set_option maxHeartbeats 4000000 in
set_option maxRecDepth 100000 in
theorem c_M_copyTable (l : Launch) (D : va_G) (G : Nat → ClassId) (A : Nat → Prop) (Z : va_W) (h : Nat) (n : Nat) (kd : Int32) (ru : Int32) (ya : Nat) (sz : Nat) (ta : Nat) (la : Nat) (rg : Nat) (so : Nat) (bg : Bool) (nc : Nat) (lfa : Nat) (rta : Nat) (lb : Int32) (wo : Int32) (ft : Nat) (fha : Nat) (fva : Nat) (fla : Nat) (sp : Nat) (tc : Nat) (tha : Nat) (tva : Nat) (wa : Nat) (sa : Nat) (ca : Nat) (va : Nat) (tt : Int64) (ld : Int32) (pt : Int64) (pw : Int64) (rc : Nat) (ra : Nat) (wn : Int32) (wt : Nat → Int64) (su : Nat → Int64) (sc : Nat → Int64) (i : Nat) (j : Nat) (hi : i + 32 ≤ 96) (hj : j + 32 ≤ 96) (hne : i + 32 ≤ j ∨ j + 32 ≤ i) : hq_FV l D G A y_M_copyTable b_M_copyTable 4 0 [.ref h, .int (nI i), .int (nI j)] ([hq_o8 h (nI n) kd ru ya (nI sz) ta la (nI rg) (nI so) (hq_z bg) (nI nc) lfa rta lb wo (nI ft) fha fva fla (nI sp) (nI tc) tha tva wa sa ca va tt ld pt pw (nI rc) ra wn, hq_al wa (G 1) 96 wt, hq_al sa (G 1) 96 su, hq_al ca (G 1) 96 sc] ++ Z) ([hq_o8 h (nI n) kd ru ya (nI sz) ta la (nI rg) (nI so) (hq_z bg) (nI nc) lfa rta lb wo (nI ft) fha fva fla (nI sp) (nI tc) tha tva wa sa ca va tt ld pt pw (nI rc) ra wn, hq_al wa (G 1) 96 (hq_cpL wt i j 32), hq_al sa (G 1) 96 (hq_cpL su i j 32), hq_al ca (G 1) 96 (hq_cpL sc i j 32)] ++ Z) := by
  refine hq_bV (by decide) (Nat.le_of_ble_eq_true rfl) ?_
  intro p e s m args below meth c Q hx hb hml hts hown hA hK hN hin hret ls H locs hl hP hD hS
  have hown : s.vm.findClass "HashedLearnerModel" = some m.cls := hown
  have hl : lv_has ls 4 [(0, .ref h), (1, .int (nI i)), (2, .int (nI j))] := hl
  refine lv_iconst (v := nI 0) hx hb d_M_copyTable_0 (by decide) ?_
  refine lv_istore_n (nL := 4) (lv' := [(3, .int (nI 0)), (0, .ref h), (1, .int (nI i)), (2, .int (nI j))]) hx hb d_M_copyTable_1 rfl hl (by decide) rfl (fun ls hl => ?_)
  have cut2 : ∀ (kz : Nat) (q : Nat) (ls : Array Slot) (H : Heap) (locs : List Loc), 32 - q = kz → (q ≤ 32) → lv_has ls 4 [(0, .ref h), (1, .int (nI i)), (2, .int (nI j)), (3, .int (nI q))] → va_P D hq_cl ([hq_o8 h (nI n) kd ru ya (nI sz) ta la (nI rg) (nI so) (hq_z bg) (nI nc) lfa rta lb wo (nI ft) fha fva fla (nI sp) (nI tc) tha tva wa sa ca va tt ld pt pw (nI rc) ra wn, hq_al wa (G 1) 96 (hq_cpL wt i j q), hq_al sa (G 1) 96 (hq_cpL su i j q), hq_al ca (G 1) 96 (hq_cpL sc i j q)] ++ Z) H → va_D A ([hq_o8 h (nI n) kd ru ya (nI sz) ta la (nI rg) (nI so) (hq_z bg) (nI nc) lfa rta lb wo (nI ft) fha fva fla (nI sp) (nI tc) tha tva wa sa ca va tt ld pt pw (nI rc) ra wn, hq_al wa (G 1) 96 (hq_cpL wt i j q), hq_al sa (G 1) 96 (hq_cpL su i j q), hq_al ca (G 1) 96 (hq_cpL sc i j q)] ++ Z) → va_S A s.heap H locs → W p l e (hq_rm 0 0 0) s m args below meth c H locs 0 0 Q (F0 m 2 ls []) := by
    intro kz
    induction kz using Nat.strongRecOn with
    | ind kz ih =>
      intro q ls H locs hkz hq hl hP hD hS
      subst hkz
      refine lv_iload_n hx hb d_M_copyTable_2 rfl (lv_at hl 3 rfl) ?_
      refine lv_bipush (v := 32) hx hb d_M_copyTable_3 (by decide) ?_
      refine lv_icmp_ge (tgt := 62) hx hb d_M_copyTable_5 rfl (fun c5 => ?_) (fun c5 => ?_)
      · -- 5 taken
        have c5 : 32 ≤ q := (nI_leI (a := 32) (b := q) (by omega) (by omega)).mp c5
        have e9_0 : (hq_cpL wt i j 32) = (hq_cpL wt i j q) := by rw [show q = 32 by omega]
        have e9_1 : (hq_cpL su i j 32) = (hq_cpL su i j q) := by rw [show q = 32 by omega]
        have e9_2 : (hq_cpL sc i j 32) = (hq_cpL sc i j q) := by rw [show q = 32 by omega]
        have hP : va_P D hq_cl ([hq_o8 h (nI n) kd ru ya (nI sz) ta la (nI rg) (nI so) (hq_z bg) (nI nc) lfa rta lb wo (nI ft) fha fva fla (nI sp) (nI tc) tha tva wa sa ca va tt ld pt pw (nI rc) ra wn, hq_al wa (G 1) 96 (hq_cpL wt i j 32), hq_al sa (G 1) 96 (hq_cpL su i j 32), hq_al ca (G 1) 96 (hq_cpL sc i j 32)] ++ Z) H := by rw [e9_0, e9_1, e9_2]; exact hP
        have hD : va_D A ([hq_o8 h (nI n) kd ru ya (nI sz) ta la (nI rg) (nI so) (hq_z bg) (nI nc) lfa rta lb wo (nI ft) fha fva fla (nI sp) (nI tc) tha tva wa sa ca va tt ld pt pw (nI rc) ra wn, hq_al wa (G 1) 96 (hq_cpL wt i j 32), hq_al sa (G 1) 96 (hq_cpL su i j 32), hq_al ca (G 1) 96 (hq_cpL sc i j 32)] ++ Z) := by rw [e9_0, e9_1, e9_2]; exact hD
        exact hret () H locs 62 ls d_M_copyTable_62 (trivial) hP hD hS
      · -- 5 not taken
        have c5 : ¬ 32 ≤ q := fun h => c5 ((nI_leI (a := 32) (b := q) (by omega) (by omega)).mpr h)
        refine lv_aload_n hx hb d_M_copyTable_8 rfl (lv_at hl 0 rfl) ?_
        refine va_get (D := D) (ci := 8) (v := .ref wa) (C := R_M) (T := F_M) (N := 34) hx hb hts uw_M hown hK hP 0 rfl rfl 23 (by decide) (hts _ fl_M_40) (fun _ h9 => h9) rfl d_M_copyTable_9 ?_
        refine lv_iload_n hx hb d_M_copyTable_12 rfl (lv_at hl 2 rfl) ?_
        refine lv_iload_n hx hb d_M_copyTable_13 rfl (lv_at hl 3 rfl) ?_
        refine lv_iadd hx hb d_M_copyTable_14 ?_
        refine hq_topi (x' := nI (j + q)) (nI_add j q) ?_
        refine lv_aload_n hx hb d_M_copyTable_15 rfl (lv_at hl 0 rfl) ?_
        refine va_get (D := D) (ci := 8) (v := .ref wa) (C := R_M) (T := F_M) (N := 34) hx hb hts uw_M hown hK hP 0 rfl rfl 23 (by decide) (hts _ fl_M_40) (fun _ h9 => h9) rfl d_M_copyTable_16 ?_
        refine lv_iload_n hx hb d_M_copyTable_19 rfl (lv_at hl 1 rfl) ?_
        refine lv_iload_n hx hb d_M_copyTable_20 rfl (lv_at hl 3 rfl) ?_
        refine lv_iadd hx hb d_M_copyTable_21 ?_
        refine hq_topi (x' := nI (i + q)) (nI_add i q) ?_
        refine hq_lald (j := i + q) hx hb hK hP 1 rfl (by omega) (by omega) d_M_copyTable_22 ?_
        refine hq_last (j := j + q) hx hb hK hP hD hS 1 rfl (by omega) (by omega) d_M_copyTable_23 (fun H locs hP hD hS => ?_)
        have hP : va_P D hq_cl ([hq_o8 h (nI n) kd ru ya (nI sz) ta la (nI rg) (nI so) (hq_z bg) (nI nc) lfa rta lb wo (nI ft) fha fva fla (nI sp) (nI tc) tha tva wa sa ca va tt ld pt pw (nI rc) ra wn, hq_al wa (G 1) 96 (vp_updL (hq_cpL wt i j q) (j + q) ((hq_cpL wt i j q) (i + q))), hq_al sa (G 1) 96 (hq_cpL su i j q), hq_al ca (G 1) 96 (hq_cpL sc i j q)] ++ Z) H := hP
        have hD : va_D A ([hq_o8 h (nI n) kd ru ya (nI sz) ta la (nI rg) (nI so) (hq_z bg) (nI nc) lfa rta lb wo (nI ft) fha fva fla (nI sp) (nI tc) tha tva wa sa ca va tt ld pt pw (nI rc) ra wn, hq_al wa (G 1) 96 (vp_updL (hq_cpL wt i j q) (j + q) ((hq_cpL wt i j q) (i + q))), hq_al sa (G 1) 96 (hq_cpL su i j q), hq_al ca (G 1) 96 (hq_cpL sc i j q)] ++ Z) := hD
        refine lv_aload_n hx hb d_M_copyTable_24 rfl (lv_at hl 0 rfl) ?_
        refine va_get (D := D) (ci := 8) (v := .ref sa) (C := R_M) (T := F_M) (N := 34) hx hb hts uw_M hown hK hP 0 rfl rfl 24 (by decide) (hts _ fl_M_44) (fun _ h9 => h9) rfl d_M_copyTable_25 ?_
        refine lv_iload_n hx hb d_M_copyTable_28 rfl (lv_at hl 2 rfl) ?_
        refine lv_iload_n hx hb d_M_copyTable_29 rfl (lv_at hl 3 rfl) ?_
        refine lv_iadd hx hb d_M_copyTable_30 ?_
        refine hq_topi (x' := nI (j + q)) (nI_add j q) ?_
        refine lv_aload_n hx hb d_M_copyTable_31 rfl (lv_at hl 0 rfl) ?_
        refine va_get (D := D) (ci := 8) (v := .ref sa) (C := R_M) (T := F_M) (N := 34) hx hb hts uw_M hown hK hP 0 rfl rfl 24 (by decide) (hts _ fl_M_44) (fun _ h9 => h9) rfl d_M_copyTable_32 ?_
        refine lv_iload_n hx hb d_M_copyTable_35 rfl (lv_at hl 1 rfl) ?_
        refine lv_iload_n hx hb d_M_copyTable_36 rfl (lv_at hl 3 rfl) ?_
        refine lv_iadd hx hb d_M_copyTable_37 ?_
        refine hq_topi (x' := nI (i + q)) (nI_add i q) ?_
        refine hq_lald (j := i + q) hx hb hK hP 2 rfl (by omega) (by omega) d_M_copyTable_38 ?_
        refine hq_last (j := j + q) hx hb hK hP hD hS 2 rfl (by omega) (by omega) d_M_copyTable_39 (fun H locs hP hD hS => ?_)
        have hP : va_P D hq_cl ([hq_o8 h (nI n) kd ru ya (nI sz) ta la (nI rg) (nI so) (hq_z bg) (nI nc) lfa rta lb wo (nI ft) fha fva fla (nI sp) (nI tc) tha tva wa sa ca va tt ld pt pw (nI rc) ra wn, hq_al wa (G 1) 96 (vp_updL (hq_cpL wt i j q) (j + q) ((hq_cpL wt i j q) (i + q))), hq_al sa (G 1) 96 (vp_updL (hq_cpL su i j q) (j + q) ((hq_cpL su i j q) (i + q))), hq_al ca (G 1) 96 (hq_cpL sc i j q)] ++ Z) H := hP
        have hD : va_D A ([hq_o8 h (nI n) kd ru ya (nI sz) ta la (nI rg) (nI so) (hq_z bg) (nI nc) lfa rta lb wo (nI ft) fha fva fla (nI sp) (nI tc) tha tva wa sa ca va tt ld pt pw (nI rc) ra wn, hq_al wa (G 1) 96 (vp_updL (hq_cpL wt i j q) (j + q) ((hq_cpL wt i j q) (i + q))), hq_al sa (G 1) 96 (vp_updL (hq_cpL su i j q) (j + q) ((hq_cpL su i j q) (i + q))), hq_al ca (G 1) 96 (hq_cpL sc i j q)] ++ Z) := hD
        refine lv_aload_n hx hb d_M_copyTable_40 rfl (lv_at hl 0 rfl) ?_
        refine va_get (D := D) (ci := 8) (v := .ref ca) (C := R_M) (T := F_M) (N := 34) hx hb hts uw_M hown hK hP 0 rfl rfl 25 (by decide) (hts _ fl_M_47) (fun _ h9 => h9) rfl d_M_copyTable_41 ?_
        refine lv_iload_n hx hb d_M_copyTable_44 rfl (lv_at hl 2 rfl) ?_
        refine lv_iload_n hx hb d_M_copyTable_45 rfl (lv_at hl 3 rfl) ?_
        refine lv_iadd hx hb d_M_copyTable_46 ?_
        refine hq_topi (x' := nI (j + q)) (nI_add j q) ?_
        refine lv_aload_n hx hb d_M_copyTable_47 rfl (lv_at hl 0 rfl) ?_
        refine va_get (D := D) (ci := 8) (v := .ref ca) (C := R_M) (T := F_M) (N := 34) hx hb hts uw_M hown hK hP 0 rfl rfl 25 (by decide) (hts _ fl_M_47) (fun _ h9 => h9) rfl d_M_copyTable_48 ?_
        refine lv_iload_n hx hb d_M_copyTable_51 rfl (lv_at hl 1 rfl) ?_
        refine lv_iload_n hx hb d_M_copyTable_52 rfl (lv_at hl 3 rfl) ?_
        refine lv_iadd hx hb d_M_copyTable_53 ?_
        refine hq_topi (x' := nI (i + q)) (nI_add i q) ?_
        refine hq_lald (j := i + q) hx hb hK hP 3 rfl (by omega) (by omega) d_M_copyTable_54 ?_
        refine hq_last (j := j + q) hx hb hK hP hD hS 3 rfl (by omega) (by omega) d_M_copyTable_55 (fun H locs hP hD hS => ?_)
        have hP : va_P D hq_cl ([hq_o8 h (nI n) kd ru ya (nI sz) ta la (nI rg) (nI so) (hq_z bg) (nI nc) lfa rta lb wo (nI ft) fha fva fla (nI sp) (nI tc) tha tva wa sa ca va tt ld pt pw (nI rc) ra wn, hq_al wa (G 1) 96 (vp_updL (hq_cpL wt i j q) (j + q) ((hq_cpL wt i j q) (i + q))), hq_al sa (G 1) 96 (vp_updL (hq_cpL su i j q) (j + q) ((hq_cpL su i j q) (i + q))), hq_al ca (G 1) 96 (vp_updL (hq_cpL sc i j q) (j + q) ((hq_cpL sc i j q) (i + q)))] ++ Z) H := hP
        have hD : va_D A ([hq_o8 h (nI n) kd ru ya (nI sz) ta la (nI rg) (nI so) (hq_z bg) (nI nc) lfa rta lb wo (nI ft) fha fva fla (nI sp) (nI tc) tha tva wa sa ca va tt ld pt pw (nI rc) ra wn, hq_al wa (G 1) 96 (vp_updL (hq_cpL wt i j q) (j + q) ((hq_cpL wt i j q) (i + q))), hq_al sa (G 1) 96 (vp_updL (hq_cpL su i j q) (j + q) ((hq_cpL su i j q) (i + q))), hq_al ca (G 1) 96 (vp_updL (hq_cpL sc i j q) (j + q) ((hq_cpL sc i j q) (i + q)))] ++ Z) := hD
        refine lv_iinc (nL := 4) (k := 3) (v := nI (q + 1)) (lv' := [(3, .int (nI (q + 1))), (0, .ref h), (1, .int (nI i)), (2, .int (nI j))]) hx hb d_M_copyTable_56 hl rfl (nI_add q 1) (by decide) rfl (fun ls hl => ?_)
        refine lv_goto (tgt := 2) hx hb d_M_copyTable_59 rfl ?_
        have e9_0 : (hq_cpL wt i j (q + 1)) = (vp_updL (hq_cpL wt i j q) (j + q) ((hq_cpL wt i j q) (i + q))) := hq_cpL_s hne (by omega)
        have e9_1 : (hq_cpL su i j (q + 1)) = (vp_updL (hq_cpL su i j q) (j + q) ((hq_cpL su i j q) (i + q))) := hq_cpL_s hne (by omega)
        have e9_2 : (hq_cpL sc i j (q + 1)) = (vp_updL (hq_cpL sc i j q) (j + q) ((hq_cpL sc i j q) (i + q))) := hq_cpL_s hne (by omega)
        have hP : va_P D hq_cl ([hq_o8 h (nI n) kd ru ya (nI sz) ta la (nI rg) (nI so) (hq_z bg) (nI nc) lfa rta lb wo (nI ft) fha fva fla (nI sp) (nI tc) tha tva wa sa ca va tt ld pt pw (nI rc) ra wn, hq_al wa (G 1) 96 (hq_cpL wt i j (q + 1)), hq_al sa (G 1) 96 (hq_cpL su i j (q + 1)), hq_al ca (G 1) 96 (hq_cpL sc i j (q + 1))] ++ Z) H := by rw [e9_0, e9_1, e9_2]; exact hP
        have hD : va_D A ([hq_o8 h (nI n) kd ru ya (nI sz) ta la (nI rg) (nI so) (hq_z bg) (nI nc) lfa rta lb wo (nI ft) fha fva fla (nI sp) (nI tc) tha tva wa sa ca va tt ld pt pw (nI rc) ra wn, hq_al wa (G 1) 96 (hq_cpL wt i j (q + 1)), hq_al sa (G 1) 96 (hq_cpL su i j (q + 1)), hq_al ca (G 1) 96 (hq_cpL sc i j (q + 1))] ++ Z) := by rw [e9_0, e9_1, e9_2]; exact hD
        exact ih _ (by omega) (q + 1) ls H locs rfl (by first | assumption | omega) (lv_sub hl [1, 2, 3, 0] rfl) hP hD hS
  have e9_0 : (hq_cpL wt i j 0) = wt := hq_cpL_0 _ i j
  have e9_1 : (hq_cpL su i j 0) = su := hq_cpL_0 _ i j
  have e9_2 : (hq_cpL sc i j 0) = sc := hq_cpL_0 _ i j
  have hP : va_P D hq_cl ([hq_o8 h (nI n) kd ru ya (nI sz) ta la (nI rg) (nI so) (hq_z bg) (nI nc) lfa rta lb wo (nI ft) fha fva fla (nI sp) (nI tc) tha tva wa sa ca va tt ld pt pw (nI rc) ra wn, hq_al wa (G 1) 96 (hq_cpL wt i j 0), hq_al sa (G 1) 96 (hq_cpL su i j 0), hq_al ca (G 1) 96 (hq_cpL sc i j 0)] ++ Z) H := by rw [e9_0, e9_1, e9_2]; exact hP
  have hD : va_D A ([hq_o8 h (nI n) kd ru ya (nI sz) ta la (nI rg) (nI so) (hq_z bg) (nI nc) lfa rta lb wo (nI ft) fha fva fla (nI sp) (nI tc) tha tva wa sa ca va tt ld pt pw (nI rc) ra wn, hq_al wa (G 1) 96 (hq_cpL wt i j 0), hq_al sa (G 1) 96 (hq_cpL su i j 0), hq_al ca (G 1) 96 (hq_cpL sc i j 0)] ++ Z) := by rw [e9_0, e9_1, e9_2]; exact hD
  exact cut2 _ 0 ls H locs rfl (by first | assumption | omega) (lv_sub hl [1, 2, 3, 0] rfl) hP hD hS
theorem d_M_save_0 : decode b_M_save 0 = .ok (.iload_n 1, 1) := by decide +kernel
theorem d_M_save_1 : decode b_M_save 1 = .ok (.ifCond .lt (8), 3) := by decide +kernel
theorem d_M_save_4 : decode b_M_save 4 = .ok (.iload_n 1, 1) := by decide +kernel
theorem d_M_save_5 : decode b_M_save 5 = .ok (.iconst 1, 1) := by decide +kernel
theorem d_M_save_6 : decode b_M_save 6 = .ok (.if_icmp .le (5), 3) := by decide +kernel
theorem d_M_save_9 : decode b_M_save 9 = .ok (.iconst 0, 1) := by decide +kernel
theorem d_M_save_10 : decode b_M_save 10 = .ok (.ireturn, 1) := by decide +kernel
theorem d_M_save_11 : decode b_M_save 11 = .ok (.aload_n 0, 1) := by decide +kernel
theorem d_M_save_12 : decode b_M_save 12 = .ok (.iconst 0, 1) := by decide +kernel
theorem d_M_save_13 : decode b_M_save 13 = .ok (.bipush (32), 2) := by decide +kernel
theorem d_M_save_15 : decode b_M_save 15 = .ok (.bipush (32), 2) := by decide +kernel
theorem d_M_save_17 : decode b_M_save 17 = .ok (.iload_n 1, 1) := by decide +kernel
theorem d_M_save_18 : decode b_M_save 18 = .ok (.imul, 1) := by decide +kernel
theorem d_M_save_19 : decode b_M_save 19 = .ok (.iadd, 1) := by decide +kernel
theorem d_M_save_20 : decode b_M_save 20 = .ok (.invokevirtual 270, 3) := by decide +kernel
theorem d_M_save_23 : decode b_M_save 23 = .ok (.aload_n 0, 1) := by decide +kernel
theorem d_M_save_24 : decode b_M_save 24 = .ok (.getfield 50, 3) := by decide +kernel
theorem d_M_save_27 : decode b_M_save 27 = .ok (.iload_n 1, 1) := by decide +kernel
theorem d_M_save_28 : decode b_M_save 28 = .ok (.iconst 1, 1) := by decide +kernel
theorem d_M_save_29 : decode b_M_save 29 = .ok (.bastore, 1) := by decide +kernel
theorem d_M_save_30 : decode b_M_save 30 = .ok (.iconst 1, 1) := by decide +kernel
theorem d_M_save_31 : decode b_M_save 31 = .ok (.ireturn, 1) := by decide +kernel
set_option maxHeartbeats 4000000 in
set_option maxRecDepth 100000 in
theorem c_M_save_no (l : Launch) (D : va_G) (G : Nat → ClassId) (A : Nat → Prop) (Z : va_W) (h : Nat) (n : Nat) (kd : Int32) (ru : Int32) (ya : Nat) (sz : Nat) (ta : Nat) (la : Nat) (rg : Nat) (so : Nat) (bg : Bool) (nc : Nat) (lfa : Nat) (rta : Nat) (lb : Int32) (wo : Int32) (ft : Nat) (fha : Nat) (fva : Nat) (fla : Nat) (sp : Nat) (tc : Nat) (tha : Nat) (tva : Nat) (wa : Nat) (sa : Nat) (ca : Nat) (va : Nat) (tt : Int64) (ld : Int32) (pt : Int64) (pw : Int64) (rc : Nat) (ra : Nat) (wn : Int32) (wt : Nat → Int64) (su : Nat → Int64) (sc : Nat → Int64) (sv : Nat → Int32) (x : Int32) (hxx : x < 0 ∨ 1 < x) : hq_FI l D G A y_M_save b_M_save 2 .boolean 0 [.ref h, .int x] ([hq_o8 h (nI n) kd ru ya (nI sz) ta la (nI rg) (nI so) (hq_z bg) (nI nc) lfa rta lb wo (nI ft) fha fva fla (nI sp) (nI tc) tha tva wa sa ca va tt ld pt pw (nI rc) ra wn, hq_al wa (G 1) 96 wt, hq_al sa (G 1) 96 su, hq_al ca (G 1) 96 sc, hq_ai va (G 3) 2 sv] ++ Z) (hq_z false) ([hq_o8 h (nI n) kd ru ya (nI sz) ta la (nI rg) (nI so) (hq_z bg) (nI nc) lfa rta lb wo (nI ft) fha fva fla (nI sp) (nI tc) tha tva wa sa ca va tt ld pt pw (nI rc) ra wn, hq_al wa (G 1) 96 wt, hq_al sa (G 1) 96 su, hq_al ca (G 1) 96 sc, hq_ai va (G 3) 2 sv] ++ Z) := by
  refine hq_bI (by decide) (Nat.le_of_ble_eq_true rfl) (fun r u h => by rw [h]; exact hq_znar _) ?_
  intro p e s m args below meth c Q hx hb hml hts hown hA hK hN hret ls H locs hl hP hD hS
  have hown : s.vm.findClass "HashedLearnerModel" = some m.cls := hown
  have hl : lv_has ls 2 [(0, .ref h), (1, .int x)] := hl
  refine lv_iload_n hx hb d_M_save_0 rfl (lv_at hl 1 rfl) ?_
  refine lv_if_lt (tgt := 9) hx hb d_M_save_1 rfl (fun c1 => ?_) (fun c1 => ?_)
  · -- 1 taken
    have c1 : x < 0 := c1
    refine lv_iconst (v := 0) hx hb d_M_save_9 (by decide) ?_
    exact hret 0 () H locs 10 ls d_M_save_10 (rfl) hP hD hS
  · -- 1 not taken
    have c1 : ¬ x < 0 := c1
    refine lv_iload_n hx hb d_M_save_4 rfl (lv_at hl 1 rfl) ?_
    refine lv_iconst (v := 1) hx hb d_M_save_5 (by decide) ?_
    refine lv_icmp_le (tgt := 11) hx hb d_M_save_6 rfl (fun c6 => ?_) (fun c6 => ?_)
    · -- 6 taken
      have c6 : x ≤ 1 := c6
      exact absurd hxx (fun h9 => h9.elim c1 (Int32.not_lt.mpr c6))
    · -- 6 not taken
      have c6 : ¬ x ≤ 1 := c6
      refine lv_iconst (v := 0) hx hb d_M_save_9 (by decide) ?_
      exact hret 0 () H locs 10 ls d_M_save_10 (rfl) hP hD hS
set_option maxHeartbeats 4000000 in
set_option maxRecDepth 100000 in
theorem c_M_save_do (l : Launch) (D : va_G) (G : Nat → ClassId) (A : Nat → Prop) (Z : va_W) (h : Nat) (n : Nat) (kd : Int32) (ru : Int32) (ya : Nat) (sz : Nat) (ta : Nat) (la : Nat) (rg : Nat) (so : Nat) (bg : Bool) (nc : Nat) (lfa : Nat) (rta : Nat) (lb : Int32) (wo : Int32) (ft : Nat) (fha : Nat) (fva : Nat) (fla : Nat) (sp : Nat) (tc : Nat) (tha : Nat) (tva : Nat) (wa : Nat) (sa : Nat) (ca : Nat) (va : Nat) (tt : Int64) (ld : Int32) (pt : Int64) (pw : Int64) (rc : Nat) (ra : Nat) (wn : Int32) (wt : Nat → Int64) (su : Nat → Int64) (sc : Nat → Int64) (sv : Nat → Int32) (k : Nat) (hk : k < 2) : hq_FI l D G A y_M_save b_M_save 2 .boolean 1 [.ref h, .int (nI k)] ([hq_o8 h (nI n) kd ru ya (nI sz) ta la (nI rg) (nI so) (hq_z bg) (nI nc) lfa rta lb wo (nI ft) fha fva fla (nI sp) (nI tc) tha tva wa sa ca va tt ld pt pw (nI rc) ra wn, hq_al wa (G 1) 96 wt, hq_al sa (G 1) 96 su, hq_al ca (G 1) 96 sc, hq_ai va (G 3) 2 sv] ++ Z) (hq_z true) ([hq_o8 h (nI n) kd ru ya (nI sz) ta la (nI rg) (nI so) (hq_z bg) (nI nc) lfa rta lb wo (nI ft) fha fva fla (nI sp) (nI tc) tha tva wa sa ca va tt ld pt pw (nI rc) ra wn, hq_al wa (G 1) 96 (hq_cpL wt (0) (32 + 32 * k) 32), hq_al sa (G 1) 96 (hq_cpL su (0) (32 + 32 * k) 32), hq_al ca (G 1) 96 (hq_cpL sc (0) (32 + 32 * k) 32), hq_ai va (G 3) 2 (upd sv k 1)] ++ Z) := by
  refine hq_bI (by decide) (Nat.le_of_ble_eq_true rfl) (fun r u h => by rw [h]; exact hq_znar _) ?_
  intro p e s m args below meth c Q hx hb hml hts hown hA hK hN hret ls H locs hl hP hD hS
  have hown : s.vm.findClass "HashedLearnerModel" = some m.cls := hown
  have hl : lv_has ls 2 [(0, .ref h), (1, .int (nI k))] := hl
  refine lv_iload_n hx hb d_M_save_0 rfl (lv_at hl 1 rfl) ?_
  refine lv_if_lt (tgt := 9) hx hb d_M_save_1 rfl (fun c1 => ?_) (fun c1 => ?_)
  · -- 1 taken
    have c1 : k < 0 := (nI_ltI (a := k) (b := 0) (by omega) (by omega)).mp c1
    exact absurd c1 (by omega)
  · -- 1 not taken
    have c1 : ¬ k < 0 := fun h => c1 ((nI_ltI (a := k) (b := 0) (by omega) (by omega)).mpr h)
    refine lv_iload_n hx hb d_M_save_4 rfl (lv_at hl 1 rfl) ?_
    refine lv_iconst (v := 1) hx hb d_M_save_5 (by decide) ?_
    refine lv_icmp_le (tgt := 11) hx hb d_M_save_6 rfl (fun c6 => ?_) (fun c6 => ?_)
    · -- 6 taken
      have c6 : k ≤ 1 := (nI_leI (a := k) (b := 1) (by omega) (by omega)).mp c6
      refine lv_aload_n hx hb d_M_save_11 rfl (lv_at hl 0 rfl) ?_
      refine lv_iconst (v := nI 0) hx hb d_M_save_12 (by decide) ?_
      refine lv_bipush (v := nI 32) hx hb d_M_save_13 (by decide) ?_
      refine lv_bipush (v := nI 32) hx hb d_M_save_15 (by decide) ?_
      refine lv_iload_n hx hb d_M_save_17 rfl (lv_at hl 1 rfl) ?_
      refine lv_imul hx hb d_M_save_18 ?_
      refine hq_topi (x' := nI (32 * k)) (pk_mul 32 k) ?_
      refine lv_iadd hx hb d_M_save_19 ?_
      refine hq_topi (x' := nI (32 + (32 * k))) (nI_add 32 (32 * k)) ?_
      have hPc : va_P D hq_cl ([hq_o8 h (nI n) kd ru ya (nI sz) ta la (nI rg) (nI so) (hq_z bg) (nI nc) lfa rta lb wo (nI ft) fha fva fla (nI sp) (nI tc) tha tva wa sa ca va tt ld pt pw (nI rc) ra wn, hq_al wa (G 1) 96 wt, hq_al sa (G 1) 96 su, hq_al ca (G 1) 96 sc] ++ ([hq_ai va (G 3) 2 sv] ++ Z)) H := hP
      have hDc : va_D A ([hq_o8 h (nI n) kd ru ya (nI sz) ta la (nI rg) (nI so) (hq_z bg) (nI nc) lfa rta lb wo (nI ft) fha fva fla (nI sp) (nI tc) tha tva wa sa ca va tt ld pt pw (nI rc) ra wn, hq_al wa (G 1) 96 wt, hq_al sa (G 1) 96 su, hq_al ca (G 1) 96 sc] ++ ([hq_ai va (G 3) 2 sv] ++ Z)) := hD
      refine hq_vF (hq_rV (As := [.int (nI 0), .int (nI (32 + (32 * k)))]) (rest := []) hx hb hml hown hts (c_M_copyTable l D G A ([hq_ai va (G 3) 2 sv] ++ Z) h n kd ru ya sz ta la rg so bg nc lfa rta lb wo ft fha fva fla sp tc tha tva wa sa ca va tt ld pt pw rc ra wn wt su sc 0 (32 + (32 * k)) (by first | assumption | omega) (by first | assumption | omega) (by first | assumption | omega)) yy_M_copyTable lk_M_270 hA hK hN hS hPc hDc 0 8 rfl rfl rfl hl.1 rfl (Nat.le_of_ble_eq_true rfl) d_M_save_20 ⟨by decide, by decide⟩ ⟨by decide, by decide⟩) hS (fun H locs hP hD hS => ?_)
      have hP : va_P D hq_cl ([hq_o8 h (nI n) kd ru ya (nI sz) ta la (nI rg) (nI so) (hq_z bg) (nI nc) lfa rta lb wo (nI ft) fha fva fla (nI sp) (nI tc) tha tva wa sa ca va tt ld pt pw (nI rc) ra wn, hq_al wa (G 1) 96 (hq_cpL wt 0 (32 + (32 * k)) 32), hq_al sa (G 1) 96 (hq_cpL su 0 (32 + (32 * k)) 32), hq_al ca (G 1) 96 (hq_cpL sc 0 (32 + (32 * k)) 32), hq_ai va (G 3) 2 sv] ++ Z) H := hP
      have hD : va_D A ([hq_o8 h (nI n) kd ru ya (nI sz) ta la (nI rg) (nI so) (hq_z bg) (nI nc) lfa rta lb wo (nI ft) fha fva fla (nI sp) (nI tc) tha tva wa sa ca va tt ld pt pw (nI rc) ra wn, hq_al wa (G 1) 96 (hq_cpL wt 0 (32 + (32 * k)) 32), hq_al sa (G 1) 96 (hq_cpL su 0 (32 + (32 * k)) 32), hq_al ca (G 1) 96 (hq_cpL sc 0 (32 + (32 * k)) 32), hq_ai va (G 3) 2 sv] ++ Z) := hD
      refine lv_aload_n hx hb d_M_save_23 rfl (lv_at hl 0 rfl) ?_
      refine va_get (D := D) (ci := 8) (v := .ref va) (C := R_M) (T := F_M) (N := 34) hx hb hts uw_M hown hK hP 0 rfl rfl 26 (by decide) (hts _ fl_M_50) (fun _ h9 => h9) rfl d_M_save_24 ?_
      refine lv_iload_n hx hb d_M_save_27 rfl (lv_at hl 1 rfl) ?_
      refine lv_iconst (v := 1) hx hb d_M_save_28 (by decide) ?_
      refine hq_zast (j := k) hx hb hK hP hD hS 4 rfl (by omega) (by omega) (by decide) d_M_save_29 (fun H locs hP hD hS => ?_)
      have hP : va_P D hq_cl ([hq_o8 h (nI n) kd ru ya (nI sz) ta la (nI rg) (nI so) (hq_z bg) (nI nc) lfa rta lb wo (nI ft) fha fva fla (nI sp) (nI tc) tha tva wa sa ca va tt ld pt pw (nI rc) ra wn, hq_al wa (G 1) 96 (hq_cpL wt 0 (32 + (32 * k)) 32), hq_al sa (G 1) 96 (hq_cpL su 0 (32 + (32 * k)) 32), hq_al ca (G 1) 96 (hq_cpL sc 0 (32 + (32 * k)) 32), hq_ai va (G 3) 2 (upd sv k 1)] ++ Z) H := hP
      have hD : va_D A ([hq_o8 h (nI n) kd ru ya (nI sz) ta la (nI rg) (nI so) (hq_z bg) (nI nc) lfa rta lb wo (nI ft) fha fva fla (nI sp) (nI tc) tha tva wa sa ca va tt ld pt pw (nI rc) ra wn, hq_al wa (G 1) 96 (hq_cpL wt 0 (32 + (32 * k)) 32), hq_al sa (G 1) 96 (hq_cpL su 0 (32 + (32 * k)) 32), hq_al ca (G 1) 96 (hq_cpL sc 0 (32 + (32 * k)) 32), hq_ai va (G 3) 2 (upd sv k 1)] ++ Z) := hD
      refine lv_iconst (v := 1) hx hb d_M_save_30 (by decide) ?_
      have e9_0 : (hq_cpL wt (0) (32 + 32 * k) 32) = (hq_cpL wt 0 (32 + (32 * k)) 32) := by rfl
      have e9_1 : (hq_cpL su (0) (32 + 32 * k) 32) = (hq_cpL su 0 (32 + (32 * k)) 32) := by rfl
      have e9_2 : (hq_cpL sc (0) (32 + 32 * k) 32) = (hq_cpL sc 0 (32 + (32 * k)) 32) := by rfl
      have hP : va_P D hq_cl ([hq_o8 h (nI n) kd ru ya (nI sz) ta la (nI rg) (nI so) (hq_z bg) (nI nc) lfa rta lb wo (nI ft) fha fva fla (nI sp) (nI tc) tha tva wa sa ca va tt ld pt pw (nI rc) ra wn, hq_al wa (G 1) 96 (hq_cpL wt (0) (32 + 32 * k) 32), hq_al sa (G 1) 96 (hq_cpL su (0) (32 + 32 * k) 32), hq_al ca (G 1) 96 (hq_cpL sc (0) (32 + 32 * k) 32), hq_ai va (G 3) 2 (upd sv k 1)] ++ Z) H := by rw [e9_0, e9_1, e9_2]; exact hP
      have hD : va_D A ([hq_o8 h (nI n) kd ru ya (nI sz) ta la (nI rg) (nI so) (hq_z bg) (nI nc) lfa rta lb wo (nI ft) fha fva fla (nI sp) (nI tc) tha tva wa sa ca va tt ld pt pw (nI rc) ra wn, hq_al wa (G 1) 96 (hq_cpL wt (0) (32 + 32 * k) 32), hq_al sa (G 1) 96 (hq_cpL su (0) (32 + 32 * k) 32), hq_al ca (G 1) 96 (hq_cpL sc (0) (32 + 32 * k) 32), hq_ai va (G 3) 2 (upd sv k 1)] ++ Z) := by rw [e9_0, e9_1, e9_2]; exact hD
      exact hret 1 () H locs 31 ls d_M_save_31 (rfl) hP hD hS
    · -- 6 not taken
      have c6 : ¬ k ≤ 1 := fun h => c6 ((nI_leI (a := k) (b := 1) (by omega) (by omega)).mpr h)
      exact absurd c6 (by omega)
theorem d_M_load_0 : decode b_M_load 0 = .ok (.iload_n 1, 1) := by decide +kernel
theorem d_M_load_1 : decode b_M_load 1 = .ok (.ifCond .lt (17), 3) := by decide +kernel
theorem d_M_load_4 : decode b_M_load 4 = .ok (.iload_n 1, 1) := by decide +kernel
theorem d_M_load_5 : decode b_M_load 5 = .ok (.iconst 1, 1) := by decide +kernel
theorem d_M_load_6 : decode b_M_load 6 = .ok (.if_icmp .gt (12), 3) := by decide +kernel
theorem d_M_load_9 : decode b_M_load 9 = .ok (.aload_n 0, 1) := by decide +kernel
theorem d_M_load_10 : decode b_M_load 10 = .ok (.getfield 50, 3) := by decide +kernel
theorem d_M_load_13 : decode b_M_load 13 = .ok (.iload_n 1, 1) := by decide +kernel
theorem d_M_load_14 : decode b_M_load 14 = .ok (.baload, 1) := by decide +kernel
theorem d_M_load_15 : decode b_M_load 15 = .ok (.ifCond .ne (5), 3) := by decide +kernel
theorem d_M_load_18 : decode b_M_load 18 = .ok (.iconst 0, 1) := by decide +kernel
theorem d_M_load_19 : decode b_M_load 19 = .ok (.ireturn, 1) := by decide +kernel
theorem d_M_load_20 : decode b_M_load 20 = .ok (.aload_n 0, 1) := by decide +kernel
theorem d_M_load_21 : decode b_M_load 21 = .ok (.bipush (32), 2) := by decide +kernel
theorem d_M_load_23 : decode b_M_load 23 = .ok (.bipush (32), 2) := by decide +kernel
theorem d_M_load_25 : decode b_M_load 25 = .ok (.iload_n 1, 1) := by decide +kernel
theorem d_M_load_26 : decode b_M_load 26 = .ok (.imul, 1) := by decide +kernel
theorem d_M_load_27 : decode b_M_load 27 = .ok (.iadd, 1) := by decide +kernel
theorem d_M_load_28 : decode b_M_load 28 = .ok (.iconst 0, 1) := by decide +kernel
theorem d_M_load_29 : decode b_M_load 29 = .ok (.invokevirtual 270, 3) := by decide +kernel
theorem d_M_load_32 : decode b_M_load 32 = .ok (.iconst 1, 1) := by decide +kernel
theorem d_M_load_33 : decode b_M_load 33 = .ok (.ireturn, 1) := by decide +kernel
set_option maxHeartbeats 4000000 in
set_option maxRecDepth 100000 in
theorem c_M_load_no (l : Launch) (D : va_G) (G : Nat → ClassId) (A : Nat → Prop) (Z : va_W) (h : Nat) (n : Nat) (kd : Int32) (ru : Int32) (ya : Nat) (sz : Nat) (ta : Nat) (la : Nat) (rg : Nat) (so : Nat) (bg : Bool) (nc : Nat) (lfa : Nat) (rta : Nat) (lb : Int32) (wo : Int32) (ft : Nat) (fha : Nat) (fva : Nat) (fla : Nat) (sp : Nat) (tc : Nat) (tha : Nat) (tva : Nat) (wa : Nat) (sa : Nat) (ca : Nat) (va : Nat) (tt : Int64) (ld : Int32) (pt : Int64) (pw : Int64) (rc : Nat) (ra : Nat) (wn : Int32) (wt : Nat → Int64) (su : Nat → Int64) (sc : Nat → Int64) (sv : Nat → Int32) (x : Int32) (hxx : x < 0 ∨ 1 < x) : hq_FI l D G A y_M_load b_M_load 2 .boolean 0 [.ref h, .int x] ([hq_o8 h (nI n) kd ru ya (nI sz) ta la (nI rg) (nI so) (hq_z bg) (nI nc) lfa rta lb wo (nI ft) fha fva fla (nI sp) (nI tc) tha tva wa sa ca va tt ld pt pw (nI rc) ra wn, hq_al wa (G 1) 96 wt, hq_al sa (G 1) 96 su, hq_al ca (G 1) 96 sc, hq_ai va (G 3) 2 sv] ++ Z) (hq_z false) ([hq_o8 h (nI n) kd ru ya (nI sz) ta la (nI rg) (nI so) (hq_z bg) (nI nc) lfa rta lb wo (nI ft) fha fva fla (nI sp) (nI tc) tha tva wa sa ca va tt ld pt pw (nI rc) ra wn, hq_al wa (G 1) 96 wt, hq_al sa (G 1) 96 su, hq_al ca (G 1) 96 sc, hq_ai va (G 3) 2 sv] ++ Z) := by
  refine hq_bI (by decide) (Nat.le_of_ble_eq_true rfl) (fun r u h => by rw [h]; exact hq_znar _) ?_
  intro p e s m args below meth c Q hx hb hml hts hown hA hK hN hret ls H locs hl hP hD hS
  have hown : s.vm.findClass "HashedLearnerModel" = some m.cls := hown
  have hl : lv_has ls 2 [(0, .ref h), (1, .int x)] := hl
  refine lv_iload_n hx hb d_M_load_0 rfl (lv_at hl 1 rfl) ?_
  refine lv_if_lt (tgt := 18) hx hb d_M_load_1 rfl (fun c1 => ?_) (fun c1 => ?_)
  · -- 1 taken
    have c1 : x < 0 := c1
    refine lv_iconst (v := 0) hx hb d_M_load_18 (by decide) ?_
    exact hret 0 () H locs 19 ls d_M_load_19 (rfl) hP hD hS
  · -- 1 not taken
    have c1 : ¬ x < 0 := c1
    refine lv_iload_n hx hb d_M_load_4 rfl (lv_at hl 1 rfl) ?_
    refine lv_iconst (v := 1) hx hb d_M_load_5 (by decide) ?_
    refine lv_icmp_gt (tgt := 18) hx hb d_M_load_6 rfl (fun c6 => ?_) (fun c6 => ?_)
    · -- 6 taken
      have c6 : 1 < x := c6
      refine lv_iconst (v := 0) hx hb d_M_load_18 (by decide) ?_
      exact hret 0 () H locs 19 ls d_M_load_19 (rfl) hP hD hS
    · -- 6 not taken
      have c6 : ¬ 1 < x := c6
      exact absurd hxx (fun h9 => h9.elim c1 (c6))
set_option maxHeartbeats 4000000 in
set_option maxRecDepth 100000 in
theorem c_M_load_un (l : Launch) (D : va_G) (G : Nat → ClassId) (A : Nat → Prop) (Z : va_W) (h : Nat) (n : Nat) (kd : Int32) (ru : Int32) (ya : Nat) (sz : Nat) (ta : Nat) (la : Nat) (rg : Nat) (so : Nat) (bg : Bool) (nc : Nat) (lfa : Nat) (rta : Nat) (lb : Int32) (wo : Int32) (ft : Nat) (fha : Nat) (fva : Nat) (fla : Nat) (sp : Nat) (tc : Nat) (tha : Nat) (tva : Nat) (wa : Nat) (sa : Nat) (ca : Nat) (va : Nat) (tt : Int64) (ld : Int32) (pt : Int64) (pw : Int64) (rc : Nat) (ra : Nat) (wn : Int32) (wt : Nat → Int64) (su : Nat → Int64) (sc : Nat → Int64) (sv : Nat → Int32) (k : Nat) (hk : k < 2) (hs : sv k = 0) : hq_FI l D G A y_M_load b_M_load 2 .boolean 0 [.ref h, .int (nI k)] ([hq_o8 h (nI n) kd ru ya (nI sz) ta la (nI rg) (nI so) (hq_z bg) (nI nc) lfa rta lb wo (nI ft) fha fva fla (nI sp) (nI tc) tha tva wa sa ca va tt ld pt pw (nI rc) ra wn, hq_al wa (G 1) 96 wt, hq_al sa (G 1) 96 su, hq_al ca (G 1) 96 sc, hq_ai va (G 3) 2 sv] ++ Z) (hq_z false) ([hq_o8 h (nI n) kd ru ya (nI sz) ta la (nI rg) (nI so) (hq_z bg) (nI nc) lfa rta lb wo (nI ft) fha fva fla (nI sp) (nI tc) tha tva wa sa ca va tt ld pt pw (nI rc) ra wn, hq_al wa (G 1) 96 wt, hq_al sa (G 1) 96 su, hq_al ca (G 1) 96 sc, hq_ai va (G 3) 2 sv] ++ Z) := by
  refine hq_bI (by decide) (Nat.le_of_ble_eq_true rfl) (fun r u h => by rw [h]; exact hq_znar _) ?_
  intro p e s m args below meth c Q hx hb hml hts hown hA hK hN hret ls H locs hl hP hD hS
  have hown : s.vm.findClass "HashedLearnerModel" = some m.cls := hown
  have hl : lv_has ls 2 [(0, .ref h), (1, .int (nI k))] := hl
  refine lv_iload_n hx hb d_M_load_0 rfl (lv_at hl 1 rfl) ?_
  refine lv_if_lt (tgt := 18) hx hb d_M_load_1 rfl (fun c1 => ?_) (fun c1 => ?_)
  · -- 1 taken
    have c1 : k < 0 := (nI_ltI (a := k) (b := 0) (by omega) (by omega)).mp c1
    exact absurd c1 (by omega)
  · -- 1 not taken
    have c1 : ¬ k < 0 := fun h => c1 ((nI_ltI (a := k) (b := 0) (by omega) (by omega)).mpr h)
    refine lv_iload_n hx hb d_M_load_4 rfl (lv_at hl 1 rfl) ?_
    refine lv_iconst (v := 1) hx hb d_M_load_5 (by decide) ?_
    refine lv_icmp_gt (tgt := 18) hx hb d_M_load_6 rfl (fun c6 => ?_) (fun c6 => ?_)
    · -- 6 taken
      have c6 : 1 < k := (nI_ltI (a := 1) (b := k) (by omega) (by omega)).mp c6
      exact absurd c6 (by omega)
    · -- 6 not taken
      have c6 : ¬ 1 < k := fun h => c6 ((nI_ltI (a := 1) (b := k) (by omega) (by omega)).mpr h)
      refine lv_aload_n hx hb d_M_load_9 rfl (lv_at hl 0 rfl) ?_
      refine va_get (D := D) (ci := 8) (v := .ref va) (C := R_M) (T := F_M) (N := 34) hx hb hts uw_M hown hK hP 0 rfl rfl 26 (by decide) (hts _ fl_M_50) (fun _ h9 => h9) rfl d_M_load_10 ?_
      refine lv_iload_n hx hb d_M_load_13 rfl (lv_at hl 1 rfl) ?_
      refine hq_zald (j := k) hx hb hK hP 4 rfl (by omega) (by omega) d_M_load_14 ?_
      refine hq_topi (x' := 0) (hs) ?_
      refine lv_if_ne (tgt := 20) hx hb d_M_load_15 rfl (fun c15 => ?_) (fun c15 => ?_)
      · exact absurd (by decide) c15
      · skip
        refine lv_iconst (v := 0) hx hb d_M_load_18 (by decide) ?_
        exact hret 0 () H locs 19 ls d_M_load_19 (rfl) hP hD hS
set_option maxHeartbeats 4000000 in
set_option maxRecDepth 100000 in
theorem c_M_load_do (l : Launch) (D : va_G) (G : Nat → ClassId) (A : Nat → Prop) (Z : va_W) (h : Nat) (n : Nat) (kd : Int32) (ru : Int32) (ya : Nat) (sz : Nat) (ta : Nat) (la : Nat) (rg : Nat) (so : Nat) (bg : Bool) (nc : Nat) (lfa : Nat) (rta : Nat) (lb : Int32) (wo : Int32) (ft : Nat) (fha : Nat) (fva : Nat) (fla : Nat) (sp : Nat) (tc : Nat) (tha : Nat) (tva : Nat) (wa : Nat) (sa : Nat) (ca : Nat) (va : Nat) (tt : Int64) (ld : Int32) (pt : Int64) (pw : Int64) (rc : Nat) (ra : Nat) (wn : Int32) (wt : Nat → Int64) (su : Nat → Int64) (sc : Nat → Int64) (sv : Nat → Int32) (k : Nat) (hk : k < 2) (hs : sv k = 1) : hq_FI l D G A y_M_load b_M_load 2 .boolean 1 [.ref h, .int (nI k)] ([hq_o8 h (nI n) kd ru ya (nI sz) ta la (nI rg) (nI so) (hq_z bg) (nI nc) lfa rta lb wo (nI ft) fha fva fla (nI sp) (nI tc) tha tva wa sa ca va tt ld pt pw (nI rc) ra wn, hq_al wa (G 1) 96 wt, hq_al sa (G 1) 96 su, hq_al ca (G 1) 96 sc, hq_ai va (G 3) 2 sv] ++ Z) (hq_z true) ([hq_o8 h (nI n) kd ru ya (nI sz) ta la (nI rg) (nI so) (hq_z bg) (nI nc) lfa rta lb wo (nI ft) fha fva fla (nI sp) (nI tc) tha tva wa sa ca va tt ld pt pw (nI rc) ra wn, hq_al wa (G 1) 96 (hq_cpL wt (32 + 32 * k) (0) 32), hq_al sa (G 1) 96 (hq_cpL su (32 + 32 * k) (0) 32), hq_al ca (G 1) 96 (hq_cpL sc (32 + 32 * k) (0) 32), hq_ai va (G 3) 2 sv] ++ Z) := by
  refine hq_bI (by decide) (Nat.le_of_ble_eq_true rfl) (fun r u h => by rw [h]; exact hq_znar _) ?_
  intro p e s m args below meth c Q hx hb hml hts hown hA hK hN hret ls H locs hl hP hD hS
  have hown : s.vm.findClass "HashedLearnerModel" = some m.cls := hown
  have hl : lv_has ls 2 [(0, .ref h), (1, .int (nI k))] := hl
  refine lv_iload_n hx hb d_M_load_0 rfl (lv_at hl 1 rfl) ?_
  refine lv_if_lt (tgt := 18) hx hb d_M_load_1 rfl (fun c1 => ?_) (fun c1 => ?_)
  · -- 1 taken
    have c1 : k < 0 := (nI_ltI (a := k) (b := 0) (by omega) (by omega)).mp c1
    exact absurd c1 (by omega)
  · -- 1 not taken
    have c1 : ¬ k < 0 := fun h => c1 ((nI_ltI (a := k) (b := 0) (by omega) (by omega)).mpr h)
    refine lv_iload_n hx hb d_M_load_4 rfl (lv_at hl 1 rfl) ?_
    refine lv_iconst (v := 1) hx hb d_M_load_5 (by decide) ?_
    refine lv_icmp_gt (tgt := 18) hx hb d_M_load_6 rfl (fun c6 => ?_) (fun c6 => ?_)
    · -- 6 taken
      have c6 : 1 < k := (nI_ltI (a := 1) (b := k) (by omega) (by omega)).mp c6
      exact absurd c6 (by omega)
    · -- 6 not taken
      have c6 : ¬ 1 < k := fun h => c6 ((nI_ltI (a := 1) (b := k) (by omega) (by omega)).mpr h)
      refine lv_aload_n hx hb d_M_load_9 rfl (lv_at hl 0 rfl) ?_
      refine va_get (D := D) (ci := 8) (v := .ref va) (C := R_M) (T := F_M) (N := 34) hx hb hts uw_M hown hK hP 0 rfl rfl 26 (by decide) (hts _ fl_M_50) (fun _ h9 => h9) rfl d_M_load_10 ?_
      refine lv_iload_n hx hb d_M_load_13 rfl (lv_at hl 1 rfl) ?_
      refine hq_zald (j := k) hx hb hK hP 4 rfl (by omega) (by omega) d_M_load_14 ?_
      refine hq_topi (x' := 1) (hs) ?_
      refine lv_if_ne (tgt := 20) hx hb d_M_load_15 rfl (fun c15 => ?_) (fun c15 => ?_)
      · skip
        refine lv_aload_n hx hb d_M_load_20 rfl (lv_at hl 0 rfl) ?_
        refine lv_bipush (v := nI 32) hx hb d_M_load_21 (by decide) ?_
        refine lv_bipush (v := nI 32) hx hb d_M_load_23 (by decide) ?_
        refine lv_iload_n hx hb d_M_load_25 rfl (lv_at hl 1 rfl) ?_
        refine lv_imul hx hb d_M_load_26 ?_
        refine hq_topi (x' := nI (32 * k)) (pk_mul 32 k) ?_
        refine lv_iadd hx hb d_M_load_27 ?_
        refine hq_topi (x' := nI (32 + (32 * k))) (nI_add 32 (32 * k)) ?_
        refine lv_iconst (v := nI 0) hx hb d_M_load_28 (by decide) ?_
        have hPc : va_P D hq_cl ([hq_o8 h (nI n) kd ru ya (nI sz) ta la (nI rg) (nI so) (hq_z bg) (nI nc) lfa rta lb wo (nI ft) fha fva fla (nI sp) (nI tc) tha tva wa sa ca va tt ld pt pw (nI rc) ra wn, hq_al wa (G 1) 96 wt, hq_al sa (G 1) 96 su, hq_al ca (G 1) 96 sc] ++ ([hq_ai va (G 3) 2 sv] ++ Z)) H := hP
        have hDc : va_D A ([hq_o8 h (nI n) kd ru ya (nI sz) ta la (nI rg) (nI so) (hq_z bg) (nI nc) lfa rta lb wo (nI ft) fha fva fla (nI sp) (nI tc) tha tva wa sa ca va tt ld pt pw (nI rc) ra wn, hq_al wa (G 1) 96 wt, hq_al sa (G 1) 96 su, hq_al ca (G 1) 96 sc] ++ ([hq_ai va (G 3) 2 sv] ++ Z)) := hD
        refine hq_vF (hq_rV (As := [.int (nI (32 + (32 * k))), .int (nI 0)]) (rest := []) hx hb hml hown hts (c_M_copyTable l D G A ([hq_ai va (G 3) 2 sv] ++ Z) h n kd ru ya sz ta la rg so bg nc lfa rta lb wo ft fha fva fla sp tc tha tva wa sa ca va tt ld pt pw rc ra wn wt su sc (32 + (32 * k)) 0 (by first | assumption | omega) (by first | assumption | omega) (by first | assumption | omega)) yy_M_copyTable lk_M_270 hA hK hN hS hPc hDc 0 8 rfl rfl rfl hl.1 rfl (Nat.le_of_ble_eq_true rfl) d_M_load_29 ⟨by decide, by decide⟩ ⟨by decide, by decide⟩) hS (fun H locs hP hD hS => ?_)
        have hP : va_P D hq_cl ([hq_o8 h (nI n) kd ru ya (nI sz) ta la (nI rg) (nI so) (hq_z bg) (nI nc) lfa rta lb wo (nI ft) fha fva fla (nI sp) (nI tc) tha tva wa sa ca va tt ld pt pw (nI rc) ra wn, hq_al wa (G 1) 96 (hq_cpL wt (32 + (32 * k)) 0 32), hq_al sa (G 1) 96 (hq_cpL su (32 + (32 * k)) 0 32), hq_al ca (G 1) 96 (hq_cpL sc (32 + (32 * k)) 0 32), hq_ai va (G 3) 2 sv] ++ Z) H := hP
        have hD : va_D A ([hq_o8 h (nI n) kd ru ya (nI sz) ta la (nI rg) (nI so) (hq_z bg) (nI nc) lfa rta lb wo (nI ft) fha fva fla (nI sp) (nI tc) tha tva wa sa ca va tt ld pt pw (nI rc) ra wn, hq_al wa (G 1) 96 (hq_cpL wt (32 + (32 * k)) 0 32), hq_al sa (G 1) 96 (hq_cpL su (32 + (32 * k)) 0 32), hq_al ca (G 1) 96 (hq_cpL sc (32 + (32 * k)) 0 32), hq_ai va (G 3) 2 sv] ++ Z) := hD
        refine lv_iconst (v := 1) hx hb d_M_load_32 (by decide) ?_
        have e9_0 : (hq_cpL wt (32 + 32 * k) (0) 32) = (hq_cpL wt (32 + (32 * k)) 0 32) := by rfl
        have e9_1 : (hq_cpL su (32 + 32 * k) (0) 32) = (hq_cpL su (32 + (32 * k)) 0 32) := by rfl
        have e9_2 : (hq_cpL sc (32 + 32 * k) (0) 32) = (hq_cpL sc (32 + (32 * k)) 0 32) := by rfl
        have hP : va_P D hq_cl ([hq_o8 h (nI n) kd ru ya (nI sz) ta la (nI rg) (nI so) (hq_z bg) (nI nc) lfa rta lb wo (nI ft) fha fva fla (nI sp) (nI tc) tha tva wa sa ca va tt ld pt pw (nI rc) ra wn, hq_al wa (G 1) 96 (hq_cpL wt (32 + 32 * k) (0) 32), hq_al sa (G 1) 96 (hq_cpL su (32 + 32 * k) (0) 32), hq_al ca (G 1) 96 (hq_cpL sc (32 + 32 * k) (0) 32), hq_ai va (G 3) 2 sv] ++ Z) H := by rw [e9_0, e9_1, e9_2]; exact hP
        have hD : va_D A ([hq_o8 h (nI n) kd ru ya (nI sz) ta la (nI rg) (nI so) (hq_z bg) (nI nc) lfa rta lb wo (nI ft) fha fva fla (nI sp) (nI tc) tha tva wa sa ca va tt ld pt pw (nI rc) ra wn, hq_al wa (G 1) 96 (hq_cpL wt (32 + 32 * k) (0) 32), hq_al sa (G 1) 96 (hq_cpL su (32 + 32 * k) (0) 32), hq_al ca (G 1) 96 (hq_cpL sc (32 + 32 * k) (0) 32), hq_ai va (G 3) 2 sv] ++ Z) := by rw [e9_0, e9_1, e9_2]; exact hD
        exact hret 1 () H locs 33 ls d_M_load_33 (rfl) hP hD hS
      · exact absurd c15 (by decide)
theorem d_M_account_0 : decode b_M_account 0 = .ok (.aload_n 0, 1) := by decide +kernel
theorem d_M_account_1 : decode b_M_account 1 = .ok (.lload_n 1, 1) := by decide +kernel
theorem d_M_account_2 : decode b_M_account 2 = .ok (.invokevirtual 228, 3) := by decide +kernel
theorem d_M_account_5 : decode b_M_account 5 = .ok (.aload_n 0, 1) := by decide +kernel
theorem d_M_account_6 : decode b_M_account 6 = .ok (.getfield 100, 3) := by decide +kernel
theorem d_M_account_9 : decode b_M_account 9 = .ok (.i2l, 1) := by decide +kernel
theorem d_M_account_10 : decode b_M_account 10 = .ok (.lmul, 1) := by decide +kernel
theorem d_M_account_11 : decode b_M_account 11 = .ok (.lstore_n 3, 1) := by decide +kernel
theorem d_M_account_12 : decode b_M_account 12 = .ok (.aload_n 0, 1) := by decide +kernel
theorem d_M_account_13 : decode b_M_account 13 = .ok (.dup, 1) := by decide +kernel
theorem d_M_account_14 : decode b_M_account 14 = .ok (.getfield 231, 3) := by decide +kernel
theorem d_M_account_17 : decode b_M_account 17 = .ok (.lload_n 3, 1) := by decide +kernel
theorem d_M_account_18 : decode b_M_account 18 = .ok (.ladd, 1) := by decide +kernel
theorem d_M_account_19 : decode b_M_account 19 = .ok (.putfield 231, 3) := by decide +kernel
theorem d_M_account_22 : decode b_M_account 22 = .ok (.aload_n 0, 1) := by decide +kernel
theorem d_M_account_23 : decode b_M_account 23 = .ok (.dup, 1) := by decide +kernel
theorem d_M_account_24 : decode b_M_account 24 = .ok (.getfield 235, 3) := by decide +kernel
theorem d_M_account_27 : decode b_M_account 27 = .ok (.lload_n 3, 1) := by decide +kernel
theorem d_M_account_28 : decode b_M_account 28 = .ok (.ladd, 1) := by decide +kernel
theorem d_M_account_29 : decode b_M_account 29 = .ok (.putfield 235, 3) := by decide +kernel
theorem d_M_account_32 : decode b_M_account 32 = .ok (.aload_n 0, 1) := by decide +kernel
theorem d_M_account_33 : decode b_M_account 33 = .ok (.dup, 1) := by decide +kernel
theorem d_M_account_34 : decode b_M_account 34 = .ok (.getfield 238, 3) := by decide +kernel
theorem d_M_account_37 : decode b_M_account 37 = .ok (.aload_n 0, 1) := by decide +kernel
theorem d_M_account_38 : decode b_M_account 38 = .ok (.getfield 100, 3) := by decide +kernel
theorem d_M_account_41 : decode b_M_account 41 = .ok (.i2l, 1) := by decide +kernel
theorem d_M_account_42 : decode b_M_account 42 = .ok (.ladd, 1) := by decide +kernel
theorem d_M_account_43 : decode b_M_account 43 = .ok (.putfield 238, 3) := by decide +kernel
theorem d_M_account_46 : decode b_M_account 46 = .ok (.aload_n 0, 1) := by decide +kernel
theorem d_M_account_47 : decode b_M_account 47 = .ok (.dup, 1) := by decide +kernel
theorem d_M_account_48 : decode b_M_account 48 = .ok (.getfield 241, 3) := by decide +kernel
theorem d_M_account_51 : decode b_M_account 51 = .ok (.iconst 1, 1) := by decide +kernel
theorem d_M_account_52 : decode b_M_account 52 = .ok (.iadd, 1) := by decide +kernel
theorem d_M_account_53 : decode b_M_account 53 = .ok (.putfield 241, 3) := by decide +kernel
theorem d_M_account_56 : decode b_M_account 56 = .ok (.aload_n 0, 1) := by decide +kernel
theorem d_M_account_57 : decode b_M_account 57 = .ok (.getfield 241, 3) := by decide +kernel
theorem d_M_account_60 : decode b_M_account 60 = .ok (.aload_n 0, 1) := by decide +kernel
theorem d_M_account_61 : decode b_M_account 61 = .ok (.getfield 241, 3) := by decide +kernel
theorem d_M_account_64 : decode b_M_account 64 = .ok (.iconst 1, 1) := by decide +kernel
theorem d_M_account_65 : decode b_M_account 65 = .ok (.isub, 1) := by decide +kernel
theorem d_M_account_66 : decode b_M_account 66 = .ok (.iand, 1) := by decide +kernel
theorem d_M_account_67 : decode b_M_account 67 = .ok (.ifCond .ne (41), 3) := by decide +kernel
theorem d_M_account_70 : decode b_M_account 70 = .ok (.aload_n 0, 1) := by decide +kernel
theorem d_M_account_71 : decode b_M_account 71 = .ok (.getfield 54, 3) := by decide +kernel
theorem d_M_account_74 : decode b_M_account 74 = .ok (.aload_n 0, 1) := by decide +kernel
theorem d_M_account_75 : decode b_M_account 75 = .ok (.getfield 244, 3) := by decide +kernel
theorem d_M_account_78 : decode b_M_account 78 = .ok (.aload_n 0, 1) := by decide +kernel
theorem d_M_account_79 : decode b_M_account 79 = .ok (.getfield 235, 3) := by decide +kernel
theorem d_M_account_82 : decode b_M_account 82 = .ok (.aload_n 0, 1) := by decide +kernel
theorem d_M_account_83 : decode b_M_account 83 = .ok (.getfield 238, 3) := by decide +kernel
theorem d_M_account_86 : decode b_M_account 86 = .ok (.ldiv, 1) := by decide +kernel
theorem d_M_account_87 : decode b_M_account 87 = .ok (.lastore, 1) := by decide +kernel
theorem d_M_account_88 : decode b_M_account 88 = .ok (.aload_n 0, 1) := by decide +kernel
theorem d_M_account_89 : decode b_M_account 89 = .ok (.dup, 1) := by decide +kernel
theorem d_M_account_90 : decode b_M_account 90 = .ok (.getfield 244, 3) := by decide +kernel
theorem d_M_account_93 : decode b_M_account 93 = .ok (.iconst 1, 1) := by decide +kernel
theorem d_M_account_94 : decode b_M_account 94 = .ok (.iadd, 1) := by decide +kernel
theorem d_M_account_95 : decode b_M_account 95 = .ok (.putfield 244, 3) := by decide +kernel
theorem d_M_account_98 : decode b_M_account 98 = .ok (.aload_n 0, 1) := by decide +kernel
theorem d_M_account_99 : decode b_M_account 99 = .ok (.lconst 0, 1) := by decide +kernel
theorem d_M_account_100 : decode b_M_account 100 = .ok (.putfield 235, 3) := by decide +kernel
theorem d_M_account_103 : decode b_M_account 103 = .ok (.aload_n 0, 1) := by decide +kernel
theorem d_M_account_104 : decode b_M_account 104 = .ok (.lconst 0, 1) := by decide +kernel
theorem d_M_account_105 : decode b_M_account 105 = .ok (.putfield 238, 3) := by decide +kernel
theorem d_M_account_108 : decode b_M_account 108 = .ok (.return_, 1) := by decide +kernel
def f_M_account_o3 (kd : Int32) (lb : Int32) (wo : Int32) (tt : Int64) (ld : Int32) (pt : Int64) (pw : Int64) (rc : Nat) (rp : Nat → Int64) (pr : Int64) : Int64 := if ((ld + 1) &&& ((ld + 1) - 1)) = 0 then 0 else pt + ((f_M_cost kd lb pr) * (Int32.toInt64 wo))
def f_M_account_o4 (kd : Int32) (lb : Int32) (wo : Int32) (tt : Int64) (ld : Int32) (pt : Int64) (pw : Int64) (rc : Nat) (rp : Nat → Int64) (pr : Int64) : Int64 := if ((ld + 1) &&& ((ld + 1) - 1)) = 0 then 0 else pw + (Int32.toInt64 wo)
def f_M_account_o5 (kd : Int32) (lb : Int32) (wo : Int32) (tt : Int64) (ld : Int32) (pt : Int64) (pw : Int64) (rc : Nat) (rp : Nat → Int64) (pr : Int64) : Nat := if ((ld + 1) &&& ((ld + 1) - 1)) = 0 then rc + 1 else rc
def f_M_account_o6 (kd : Int32) (lb : Int32) (wo : Int32) (tt : Int64) (ld : Int32) (pt : Int64) (pw : Int64) (rc : Nat) (rp : Nat → Int64) (pr : Int64) : Nat → Int64 := if ((ld + 1) &&& ((ld + 1) - 1)) = 0 then vp_updL rp rc ((pt + ((f_M_cost kd lb pr) * (Int32.toInt64 wo))) / (pw + (Int32.toInt64 wo))) else rp
set_option maxHeartbeats 4000000 in
set_option maxRecDepth 100000 in
theorem c_M_account (l : Launch) (D : va_G) (G : Nat → ClassId) (A : Nat → Prop) (Z : va_W) (h : Nat) (n : Nat) (kd : Int32) (ru : Int32) (ya : Nat) (sz : Nat) (ta : Nat) (la : Nat) (rg : Nat) (so : Nat) (bg : Bool) (nc : Nat) (lfa : Nat) (rta : Nat) (lb : Int32) (wo : Int32) (ft : Nat) (fha : Nat) (fva : Nat) (fla : Nat) (sp : Nat) (tc : Nat) (tha : Nat) (tva : Nat) (wa : Nat) (sa : Nat) (ca : Nat) (va : Nat) (tt : Int64) (ld : Int32) (pt : Int64) (pw : Int64) (rc : Nat) (ra : Nat) (wn : Int32) (rp : Nat → Int64) (pr : Int64) (hrc : rc < 12) (hpw : ¬ (pw + (Int32.toInt64 wo)) = 0) : hq_FV l D G A y_M_account b_M_account 5 1 [.ref h, .long pr] ([hq_o8 h (nI n) kd ru ya (nI sz) ta la (nI rg) (nI so) (hq_z bg) (nI nc) lfa rta lb wo (nI ft) fha fva fla (nI sp) (nI tc) tha tva wa sa ca va tt ld pt pw (nI rc) ra wn, hq_al ra (G 1) 12 rp] ++ Z) ([hq_o8 h (nI n) kd ru ya (nI sz) ta la (nI rg) (nI so) (hq_z bg) (nI nc) lfa rta lb wo (nI ft) fha fva fla (nI sp) (nI tc) tha tva wa sa ca va (tt + ((f_M_cost kd lb pr) * (Int32.toInt64 wo))) (ld + 1) (f_M_account_o3 kd lb wo tt ld pt pw rc rp pr) (f_M_account_o4 kd lb wo tt ld pt pw rc rp pr) (nI (f_M_account_o5 kd lb wo tt ld pt pw rc rp pr)) ra wn, hq_al ra (G 1) 12 (f_M_account_o6 kd lb wo tt ld pt pw rc rp pr)] ++ Z) := by
  refine hq_bV (by decide) (Nat.le_of_ble_eq_true rfl) ?_
  intro p e s m args below meth c Q hx hb hml hts hown hA hK hN hin hret ls H locs hl hP hD hS
  have hown : s.vm.findClass "HashedLearnerModel" = some m.cls := hown
  have hl : lv_has ls 5 [(0, .ref h), (1, .long pr)] := hl
  refine lv_aload_n hx hb d_M_account_0 rfl (lv_at hl 0 rfl) ?_
  refine lv_lload_n hx hb d_M_account_1 rfl (lv_at hl 1 rfl) ?_
  have hPc : va_P D hq_cl ([hq_o8 h (nI n) kd ru ya (nI sz) ta la (nI rg) (nI so) (hq_z bg) (nI nc) lfa rta lb wo (nI ft) fha fva fla (nI sp) (nI tc) tha tva wa sa ca va tt ld pt pw (nI rc) ra wn] ++ ([hq_al ra (G 1) 12 rp] ++ Z)) H := hP
  have hDc : va_D A ([hq_o8 h (nI n) kd ru ya (nI sz) ta la (nI rg) (nI so) (hq_z bg) (nI nc) lfa rta lb wo (nI ft) fha fva fla (nI sp) (nI tc) tha tva wa sa ca va tt ld pt pw (nI rc) ra wn] ++ ([hq_al ra (G 1) 12 rp] ++ Z)) := hD
  refine hq_lF (hq_rV (As := [.long pr]) (rest := []) hx hb hml hown hts (c_M_cost l D G A ([hq_al ra (G 1) 12 rp] ++ Z) h ([.int (nI n), .int kd, .int ru, .ref ya, .int (nI sz), .ref ta, .ref la, .int (nI rg), .int (nI so), .int (hq_z bg), .int (nI nc), .ref lfa, .ref rta, .int lb, .int wo, .int (nI ft), .ref fha, .ref fva, .ref fla, .int (nI sp), .int (nI tc), .ref tha, .ref tva, .ref wa, .ref sa, .ref ca, .ref va, .long tt, .int ld, .long pt, .long pw, .int (nI rc), .ref ra, .int wn]) kd lb pr (by first | assumption | rfl) (by first | assumption | rfl)) yy_M_cost lk_M_228 hA hK hN hS hPc hDc 0 8 rfl rfl rfl hl.1 rfl (Nat.le_of_ble_eq_true rfl) d_M_account_2 ⟨by decide, by decide⟩ ⟨by decide, by decide⟩) hS (fun H locs hP hD hS => ?_)
  have hP : va_P D hq_cl ([hq_o8 h (nI n) kd ru ya (nI sz) ta la (nI rg) (nI so) (hq_z bg) (nI nc) lfa rta lb wo (nI ft) fha fva fla (nI sp) (nI tc) tha tva wa sa ca va tt ld pt pw (nI rc) ra wn, hq_al ra (G 1) 12 rp] ++ Z) H := hP
  have hD : va_D A ([hq_o8 h (nI n) kd ru ya (nI sz) ta la (nI rg) (nI so) (hq_z bg) (nI nc) lfa rta lb wo (nI ft) fha fva fla (nI sp) (nI tc) tha tva wa sa ca va tt ld pt pw (nI rc) ra wn, hq_al ra (G 1) 12 rp] ++ Z) := hD
  refine lv_aload_n hx hb d_M_account_5 rfl (lv_at hl 0 rfl) ?_
  refine va_get (D := D) (ci := 8) (v := .int wo) (C := R_M) (T := F_M) (N := 34) hx hb hts uw_M hown hK hP 0 rfl rfl 14 (by decide) (hts _ fl_M_100) (fun _ h9 => h9) rfl d_M_account_6 ?_
  refine lv_i2l (v := Int32.toInt64 wo) hx hb d_M_account_9 rfl ?_
  refine lv_lmul hx hb d_M_account_10 ?_
  refine lv_lstore_n (nL := 5) (lv' := [(3, .long ((f_M_cost kd lb pr) * (Int32.toInt64 wo))), (0, .ref h), (1, .long pr)]) hx hb d_M_account_11 rfl hl (by decide) rfl (fun ls hl => ?_)
  refine lv_aload_n hx hb d_M_account_12 rfl (lv_at hl 1 rfl) ?_
  refine lv_dup hx hb d_M_account_13 rfl ?_
  refine va_get (D := D) (ci := 8) (v := .long tt) (C := R_M) (T := F_M) (N := 34) hx hb hts uw_M hown hK hP 0 rfl rfl 27 (by decide) (hts _ fl_M_231) (fun _ h9 => h9) rfl d_M_account_14 ?_
  refine lv_lload_n hx hb d_M_account_17 rfl (lv_at hl 0 rfl) ?_
  refine lv_ladd hx hb d_M_account_18 ?_
  refine va_put (D := D) (ci := 8) (v := .long (tt + ((f_M_cost kd lb pr) * (Int32.toInt64 wo)))) (ty := .long) (C := R_M) (T := F_M) (N := 34) hx hb hts uw_M t_M t_M_ok n_M hown hK hP hD hS 0 rfl rfl 27 (by decide) (hts _ fl_M_231) (fun _ h9 => h9) rfl (by decide +kernel) (rfl) (rfl) (Nat.le_of_ble_eq_true rfl) d_M_account_19 (fun H locs hP hD hS => ?_)
  have hP : va_P D hq_cl ([hq_o8 h (nI n) kd ru ya (nI sz) ta la (nI rg) (nI so) (hq_z bg) (nI nc) lfa rta lb wo (nI ft) fha fva fla (nI sp) (nI tc) tha tva wa sa ca va (tt + ((f_M_cost kd lb pr) * (Int32.toInt64 wo))) ld pt pw (nI rc) ra wn, hq_al ra (G 1) 12 rp] ++ Z) H := hP
  have hD : va_D A ([hq_o8 h (nI n) kd ru ya (nI sz) ta la (nI rg) (nI so) (hq_z bg) (nI nc) lfa rta lb wo (nI ft) fha fva fla (nI sp) (nI tc) tha tva wa sa ca va (tt + ((f_M_cost kd lb pr) * (Int32.toInt64 wo))) ld pt pw (nI rc) ra wn, hq_al ra (G 1) 12 rp] ++ Z) := hD
  refine lv_aload_n hx hb d_M_account_22 rfl (lv_at hl 1 rfl) ?_
  refine lv_dup hx hb d_M_account_23 rfl ?_
  refine va_get (D := D) (ci := 8) (v := .long pt) (C := R_M) (T := F_M) (N := 34) hx hb hts uw_M hown hK hP 0 rfl rfl 29 (by decide) (hts _ fl_M_235) (fun _ h9 => h9) rfl d_M_account_24 ?_
  refine lv_lload_n hx hb d_M_account_27 rfl (lv_at hl 0 rfl) ?_
  refine lv_ladd hx hb d_M_account_28 ?_
  refine va_put (D := D) (ci := 8) (v := .long (pt + ((f_M_cost kd lb pr) * (Int32.toInt64 wo)))) (ty := .long) (C := R_M) (T := F_M) (N := 34) hx hb hts uw_M t_M t_M_ok n_M hown hK hP hD hS 0 rfl rfl 29 (by decide) (hts _ fl_M_235) (fun _ h9 => h9) rfl (by decide +kernel) (rfl) (rfl) (Nat.le_of_ble_eq_true rfl) d_M_account_29 (fun H locs hP hD hS => ?_)
  have hP : va_P D hq_cl ([hq_o8 h (nI n) kd ru ya (nI sz) ta la (nI rg) (nI so) (hq_z bg) (nI nc) lfa rta lb wo (nI ft) fha fva fla (nI sp) (nI tc) tha tva wa sa ca va (tt + ((f_M_cost kd lb pr) * (Int32.toInt64 wo))) ld (pt + ((f_M_cost kd lb pr) * (Int32.toInt64 wo))) pw (nI rc) ra wn, hq_al ra (G 1) 12 rp] ++ Z) H := hP
  have hD : va_D A ([hq_o8 h (nI n) kd ru ya (nI sz) ta la (nI rg) (nI so) (hq_z bg) (nI nc) lfa rta lb wo (nI ft) fha fva fla (nI sp) (nI tc) tha tva wa sa ca va (tt + ((f_M_cost kd lb pr) * (Int32.toInt64 wo))) ld (pt + ((f_M_cost kd lb pr) * (Int32.toInt64 wo))) pw (nI rc) ra wn, hq_al ra (G 1) 12 rp] ++ Z) := hD
  refine lv_aload_n hx hb d_M_account_32 rfl (lv_at hl 1 rfl) ?_
  refine lv_dup hx hb d_M_account_33 rfl ?_
  refine va_get (D := D) (ci := 8) (v := .long pw) (C := R_M) (T := F_M) (N := 34) hx hb hts uw_M hown hK hP 0 rfl rfl 30 (by decide) (hts _ fl_M_238) (fun _ h9 => h9) rfl d_M_account_34 ?_
  refine lv_aload_n hx hb d_M_account_37 rfl (lv_at hl 1 rfl) ?_
  refine va_get (D := D) (ci := 8) (v := .int wo) (C := R_M) (T := F_M) (N := 34) hx hb hts uw_M hown hK hP 0 rfl rfl 14 (by decide) (hts _ fl_M_100) (fun _ h9 => h9) rfl d_M_account_38 ?_
  refine lv_i2l (v := Int32.toInt64 wo) hx hb d_M_account_41 rfl ?_
  refine lv_ladd hx hb d_M_account_42 ?_
  refine va_put (D := D) (ci := 8) (v := .long (pw + (Int32.toInt64 wo))) (ty := .long) (C := R_M) (T := F_M) (N := 34) hx hb hts uw_M t_M t_M_ok n_M hown hK hP hD hS 0 rfl rfl 30 (by decide) (hts _ fl_M_238) (fun _ h9 => h9) rfl (by decide +kernel) (rfl) (rfl) (Nat.le_of_ble_eq_true rfl) d_M_account_43 (fun H locs hP hD hS => ?_)
  have hP : va_P D hq_cl ([hq_o8 h (nI n) kd ru ya (nI sz) ta la (nI rg) (nI so) (hq_z bg) (nI nc) lfa rta lb wo (nI ft) fha fva fla (nI sp) (nI tc) tha tva wa sa ca va (tt + ((f_M_cost kd lb pr) * (Int32.toInt64 wo))) ld (pt + ((f_M_cost kd lb pr) * (Int32.toInt64 wo))) (pw + (Int32.toInt64 wo)) (nI rc) ra wn, hq_al ra (G 1) 12 rp] ++ Z) H := hP
  have hD : va_D A ([hq_o8 h (nI n) kd ru ya (nI sz) ta la (nI rg) (nI so) (hq_z bg) (nI nc) lfa rta lb wo (nI ft) fha fva fla (nI sp) (nI tc) tha tva wa sa ca va (tt + ((f_M_cost kd lb pr) * (Int32.toInt64 wo))) ld (pt + ((f_M_cost kd lb pr) * (Int32.toInt64 wo))) (pw + (Int32.toInt64 wo)) (nI rc) ra wn, hq_al ra (G 1) 12 rp] ++ Z) := hD
  refine lv_aload_n hx hb d_M_account_46 rfl (lv_at hl 1 rfl) ?_
  refine lv_dup hx hb d_M_account_47 rfl ?_
  refine va_get (D := D) (ci := 8) (v := .int ld) (C := R_M) (T := F_M) (N := 34) hx hb hts uw_M hown hK hP 0 rfl rfl 28 (by decide) (hts _ fl_M_241) (fun _ h9 => h9) rfl d_M_account_48 ?_
  refine lv_iconst (v := 1) hx hb d_M_account_51 (by decide) ?_
  refine lv_iadd hx hb d_M_account_52 ?_
  refine va_put (D := D) (ci := 8) (v := .int (ld + 1)) (ty := .int) (C := R_M) (T := F_M) (N := 34) hx hb hts uw_M t_M t_M_ok n_M hown hK hP hD hS 0 rfl rfl 28 (by decide) (hts _ fl_M_241) (fun _ h9 => h9) rfl (by decide +kernel) (rfl) (rfl) (Nat.le_of_ble_eq_true rfl) d_M_account_53 (fun H locs hP hD hS => ?_)
  have hP : va_P D hq_cl ([hq_o8 h (nI n) kd ru ya (nI sz) ta la (nI rg) (nI so) (hq_z bg) (nI nc) lfa rta lb wo (nI ft) fha fva fla (nI sp) (nI tc) tha tva wa sa ca va (tt + ((f_M_cost kd lb pr) * (Int32.toInt64 wo))) (ld + 1) (pt + ((f_M_cost kd lb pr) * (Int32.toInt64 wo))) (pw + (Int32.toInt64 wo)) (nI rc) ra wn, hq_al ra (G 1) 12 rp] ++ Z) H := hP
  have hD : va_D A ([hq_o8 h (nI n) kd ru ya (nI sz) ta la (nI rg) (nI so) (hq_z bg) (nI nc) lfa rta lb wo (nI ft) fha fva fla (nI sp) (nI tc) tha tva wa sa ca va (tt + ((f_M_cost kd lb pr) * (Int32.toInt64 wo))) (ld + 1) (pt + ((f_M_cost kd lb pr) * (Int32.toInt64 wo))) (pw + (Int32.toInt64 wo)) (nI rc) ra wn, hq_al ra (G 1) 12 rp] ++ Z) := hD
  refine lv_aload_n hx hb d_M_account_56 rfl (lv_at hl 1 rfl) ?_
  refine va_get (D := D) (ci := 8) (v := .int (ld + 1)) (C := R_M) (T := F_M) (N := 34) hx hb hts uw_M hown hK hP 0 rfl rfl 28 (by decide) (hts _ fl_M_241) (fun _ h9 => h9) rfl d_M_account_57 ?_
  refine lv_aload_n hx hb d_M_account_60 rfl (lv_at hl 1 rfl) ?_
  refine va_get (D := D) (ci := 8) (v := .int (ld + 1)) (C := R_M) (T := F_M) (N := 34) hx hb hts uw_M hown hK hP 0 rfl rfl 28 (by decide) (hts _ fl_M_241) (fun _ h9 => h9) rfl d_M_account_61 ?_
  refine lv_iconst (v := 1) hx hb d_M_account_64 (by decide) ?_
  refine lv_isub hx hb d_M_account_65 ?_
  refine lv_iand hx hb d_M_account_66 ?_
  refine lv_if_ne (tgt := 108) hx hb d_M_account_67 rfl (fun c67 => ?_) (fun c67 => ?_)
  · -- 67 taken
    have c67 : ¬ ((ld + 1) &&& ((ld + 1) - 1)) = 0 := c67
    have hP : va_P D hq_cl ([hq_o8 h (nI n) kd ru ya (nI sz) ta la (nI rg) (nI so) (hq_z bg) (nI nc) lfa rta lb wo (nI ft) fha fva fla (nI sp) (nI tc) tha tva wa sa ca va (tt + ((f_M_cost kd lb pr) * (Int32.toInt64 wo))) (ld + 1) (f_M_account_o3 kd lb wo tt ld pt pw rc rp pr) (f_M_account_o4 kd lb wo tt ld pt pw rc rp pr) (nI (f_M_account_o5 kd lb wo tt ld pt pw rc rp pr)) ra wn, hq_al ra (G 1) 12 (f_M_account_o6 kd lb wo tt ld pt pw rc rp pr)] ++ Z) H := by rw [show f_M_account_o3 kd lb wo tt ld pt pw rc rp pr = pt + ((f_M_cost kd lb pr) * (Int32.toInt64 wo)) by (rw [f_M_account_o3, if_neg c67] <;> rfl), show f_M_account_o4 kd lb wo tt ld pt pw rc rp pr = pw + (Int32.toInt64 wo) by (rw [f_M_account_o4, if_neg c67] <;> rfl), show nI (f_M_account_o5 kd lb wo tt ld pt pw rc rp pr) = nI rc by (rw [f_M_account_o5, if_neg c67] <;> rfl), show f_M_account_o6 kd lb wo tt ld pt pw rc rp pr = rp by (rw [f_M_account_o6, if_neg c67] <;> rfl)]; exact hP
    have hD : va_D A ([hq_o8 h (nI n) kd ru ya (nI sz) ta la (nI rg) (nI so) (hq_z bg) (nI nc) lfa rta lb wo (nI ft) fha fva fla (nI sp) (nI tc) tha tva wa sa ca va (tt + ((f_M_cost kd lb pr) * (Int32.toInt64 wo))) (ld + 1) (f_M_account_o3 kd lb wo tt ld pt pw rc rp pr) (f_M_account_o4 kd lb wo tt ld pt pw rc rp pr) (nI (f_M_account_o5 kd lb wo tt ld pt pw rc rp pr)) ra wn, hq_al ra (G 1) 12 (f_M_account_o6 kd lb wo tt ld pt pw rc rp pr)] ++ Z) := by rw [show f_M_account_o3 kd lb wo tt ld pt pw rc rp pr = pt + ((f_M_cost kd lb pr) * (Int32.toInt64 wo)) by (rw [f_M_account_o3, if_neg c67] <;> rfl), show f_M_account_o4 kd lb wo tt ld pt pw rc rp pr = pw + (Int32.toInt64 wo) by (rw [f_M_account_o4, if_neg c67] <;> rfl), show nI (f_M_account_o5 kd lb wo tt ld pt pw rc rp pr) = nI rc by (rw [f_M_account_o5, if_neg c67] <;> rfl), show f_M_account_o6 kd lb wo tt ld pt pw rc rp pr = rp by (rw [f_M_account_o6, if_neg c67] <;> rfl)]; exact hD
    exact hret () H locs 108 ls d_M_account_108 (trivial) hP hD hS
  · -- 67 not taken
    have c67 : ((ld + 1) &&& ((ld + 1) - 1)) = 0 := c67
    refine lv_aload_n hx hb d_M_account_70 rfl (lv_at hl 1 rfl) ?_
    refine va_get (D := D) (ci := 8) (v := .ref ra) (C := R_M) (T := F_M) (N := 34) hx hb hts uw_M hown hK hP 0 rfl rfl 32 (by decide) (hts _ fl_M_54) (fun _ h9 => h9) rfl d_M_account_71 ?_
    refine lv_aload_n hx hb d_M_account_74 rfl (lv_at hl 1 rfl) ?_
    refine va_get (D := D) (ci := 8) (v := .int (nI rc)) (C := R_M) (T := F_M) (N := 34) hx hb hts uw_M hown hK hP 0 rfl rfl 31 (by decide) (hts _ fl_M_244) (fun _ h9 => h9) rfl d_M_account_75 ?_
    refine lv_aload_n hx hb d_M_account_78 rfl (lv_at hl 1 rfl) ?_
    refine va_get (D := D) (ci := 8) (v := .long (pt + ((f_M_cost kd lb pr) * (Int32.toInt64 wo)))) (C := R_M) (T := F_M) (N := 34) hx hb hts uw_M hown hK hP 0 rfl rfl 29 (by decide) (hts _ fl_M_235) (fun _ h9 => h9) rfl d_M_account_79 ?_
    refine lv_aload_n hx hb d_M_account_82 rfl (lv_at hl 1 rfl) ?_
    refine va_get (D := D) (ci := 8) (v := .long (pw + (Int32.toInt64 wo))) (C := R_M) (T := F_M) (N := 34) hx hb hts uw_M hown hK hP 0 rfl rfl 30 (by decide) (hts _ fl_M_238) (fun _ h9 => h9) rfl d_M_account_83 ?_
    refine lv_ldiv hx hb d_M_account_86 (hpw) ?_
    refine hq_last (j := rc) hx hb hK hP hD hS 1 rfl (by omega) (by omega) d_M_account_87 (fun H locs hP hD hS => ?_)
    have hP : va_P D hq_cl ([hq_o8 h (nI n) kd ru ya (nI sz) ta la (nI rg) (nI so) (hq_z bg) (nI nc) lfa rta lb wo (nI ft) fha fva fla (nI sp) (nI tc) tha tva wa sa ca va (tt + ((f_M_cost kd lb pr) * (Int32.toInt64 wo))) (ld + 1) (pt + ((f_M_cost kd lb pr) * (Int32.toInt64 wo))) (pw + (Int32.toInt64 wo)) (nI rc) ra wn, hq_al ra (G 1) 12 (vp_updL rp rc ((pt + ((f_M_cost kd lb pr) * (Int32.toInt64 wo))) / (pw + (Int32.toInt64 wo))))] ++ Z) H := hP
    have hD : va_D A ([hq_o8 h (nI n) kd ru ya (nI sz) ta la (nI rg) (nI so) (hq_z bg) (nI nc) lfa rta lb wo (nI ft) fha fva fla (nI sp) (nI tc) tha tva wa sa ca va (tt + ((f_M_cost kd lb pr) * (Int32.toInt64 wo))) (ld + 1) (pt + ((f_M_cost kd lb pr) * (Int32.toInt64 wo))) (pw + (Int32.toInt64 wo)) (nI rc) ra wn, hq_al ra (G 1) 12 (vp_updL rp rc ((pt + ((f_M_cost kd lb pr) * (Int32.toInt64 wo))) / (pw + (Int32.toInt64 wo))))] ++ Z) := hD
    refine lv_aload_n hx hb d_M_account_88 rfl (lv_at hl 1 rfl) ?_
    refine lv_dup hx hb d_M_account_89 rfl ?_
    refine va_get (D := D) (ci := 8) (v := .int (nI rc)) (C := R_M) (T := F_M) (N := 34) hx hb hts uw_M hown hK hP 0 rfl rfl 31 (by decide) (hts _ fl_M_244) (fun _ h9 => h9) rfl d_M_account_90 ?_
    refine lv_iconst (v := 1) hx hb d_M_account_93 (by decide) ?_
    refine lv_iadd hx hb d_M_account_94 ?_
    refine hq_topi (x' := nI (rc + 1)) (nI_add rc 1) ?_
    refine va_put (D := D) (ci := 8) (v := .int (nI (rc + 1))) (ty := .int) (C := R_M) (T := F_M) (N := 34) hx hb hts uw_M t_M t_M_ok n_M hown hK hP hD hS 0 rfl rfl 31 (by decide) (hts _ fl_M_244) (fun _ h9 => h9) rfl (by decide +kernel) (rfl) (rfl) (Nat.le_of_ble_eq_true rfl) d_M_account_95 (fun H locs hP hD hS => ?_)
    have hP : va_P D hq_cl ([hq_o8 h (nI n) kd ru ya (nI sz) ta la (nI rg) (nI so) (hq_z bg) (nI nc) lfa rta lb wo (nI ft) fha fva fla (nI sp) (nI tc) tha tva wa sa ca va (tt + ((f_M_cost kd lb pr) * (Int32.toInt64 wo))) (ld + 1) (pt + ((f_M_cost kd lb pr) * (Int32.toInt64 wo))) (pw + (Int32.toInt64 wo)) (nI (rc + 1)) ra wn, hq_al ra (G 1) 12 (vp_updL rp rc ((pt + ((f_M_cost kd lb pr) * (Int32.toInt64 wo))) / (pw + (Int32.toInt64 wo))))] ++ Z) H := hP
    have hD : va_D A ([hq_o8 h (nI n) kd ru ya (nI sz) ta la (nI rg) (nI so) (hq_z bg) (nI nc) lfa rta lb wo (nI ft) fha fva fla (nI sp) (nI tc) tha tva wa sa ca va (tt + ((f_M_cost kd lb pr) * (Int32.toInt64 wo))) (ld + 1) (pt + ((f_M_cost kd lb pr) * (Int32.toInt64 wo))) (pw + (Int32.toInt64 wo)) (nI (rc + 1)) ra wn, hq_al ra (G 1) 12 (vp_updL rp rc ((pt + ((f_M_cost kd lb pr) * (Int32.toInt64 wo))) / (pw + (Int32.toInt64 wo))))] ++ Z) := hD
    refine lv_aload_n hx hb d_M_account_98 rfl (lv_at hl 1 rfl) ?_
    refine lv_lconst (v := 0) hx hb d_M_account_99 (by decide) ?_
    refine va_put (D := D) (ci := 8) (v := .long 0) (ty := .long) (C := R_M) (T := F_M) (N := 34) hx hb hts uw_M t_M t_M_ok n_M hown hK hP hD hS 0 rfl rfl 29 (by decide) (hts _ fl_M_235) (fun _ h9 => h9) rfl (by decide +kernel) (rfl) (rfl) (Nat.le_of_ble_eq_true rfl) d_M_account_100 (fun H locs hP hD hS => ?_)
    have hP : va_P D hq_cl ([hq_o8 h (nI n) kd ru ya (nI sz) ta la (nI rg) (nI so) (hq_z bg) (nI nc) lfa rta lb wo (nI ft) fha fva fla (nI sp) (nI tc) tha tva wa sa ca va (tt + ((f_M_cost kd lb pr) * (Int32.toInt64 wo))) (ld + 1) 0 (pw + (Int32.toInt64 wo)) (nI (rc + 1)) ra wn, hq_al ra (G 1) 12 (vp_updL rp rc ((pt + ((f_M_cost kd lb pr) * (Int32.toInt64 wo))) / (pw + (Int32.toInt64 wo))))] ++ Z) H := hP
    have hD : va_D A ([hq_o8 h (nI n) kd ru ya (nI sz) ta la (nI rg) (nI so) (hq_z bg) (nI nc) lfa rta lb wo (nI ft) fha fva fla (nI sp) (nI tc) tha tva wa sa ca va (tt + ((f_M_cost kd lb pr) * (Int32.toInt64 wo))) (ld + 1) 0 (pw + (Int32.toInt64 wo)) (nI (rc + 1)) ra wn, hq_al ra (G 1) 12 (vp_updL rp rc ((pt + ((f_M_cost kd lb pr) * (Int32.toInt64 wo))) / (pw + (Int32.toInt64 wo))))] ++ Z) := hD
    refine lv_aload_n hx hb d_M_account_103 rfl (lv_at hl 1 rfl) ?_
    refine lv_lconst (v := 0) hx hb d_M_account_104 (by decide) ?_
    refine va_put (D := D) (ci := 8) (v := .long 0) (ty := .long) (C := R_M) (T := F_M) (N := 34) hx hb hts uw_M t_M t_M_ok n_M hown hK hP hD hS 0 rfl rfl 30 (by decide) (hts _ fl_M_238) (fun _ h9 => h9) rfl (by decide +kernel) (rfl) (rfl) (Nat.le_of_ble_eq_true rfl) d_M_account_105 (fun H locs hP hD hS => ?_)
    have hP : va_P D hq_cl ([hq_o8 h (nI n) kd ru ya (nI sz) ta la (nI rg) (nI so) (hq_z bg) (nI nc) lfa rta lb wo (nI ft) fha fva fla (nI sp) (nI tc) tha tva wa sa ca va (tt + ((f_M_cost kd lb pr) * (Int32.toInt64 wo))) (ld + 1) 0 0 (nI (rc + 1)) ra wn, hq_al ra (G 1) 12 (vp_updL rp rc ((pt + ((f_M_cost kd lb pr) * (Int32.toInt64 wo))) / (pw + (Int32.toInt64 wo))))] ++ Z) H := hP
    have hD : va_D A ([hq_o8 h (nI n) kd ru ya (nI sz) ta la (nI rg) (nI so) (hq_z bg) (nI nc) lfa rta lb wo (nI ft) fha fva fla (nI sp) (nI tc) tha tva wa sa ca va (tt + ((f_M_cost kd lb pr) * (Int32.toInt64 wo))) (ld + 1) 0 0 (nI (rc + 1)) ra wn, hq_al ra (G 1) 12 (vp_updL rp rc ((pt + ((f_M_cost kd lb pr) * (Int32.toInt64 wo))) / (pw + (Int32.toInt64 wo))))] ++ Z) := hD
    have hP : va_P D hq_cl ([hq_o8 h (nI n) kd ru ya (nI sz) ta la (nI rg) (nI so) (hq_z bg) (nI nc) lfa rta lb wo (nI ft) fha fva fla (nI sp) (nI tc) tha tva wa sa ca va (tt + ((f_M_cost kd lb pr) * (Int32.toInt64 wo))) (ld + 1) (f_M_account_o3 kd lb wo tt ld pt pw rc rp pr) (f_M_account_o4 kd lb wo tt ld pt pw rc rp pr) (nI (f_M_account_o5 kd lb wo tt ld pt pw rc rp pr)) ra wn, hq_al ra (G 1) 12 (f_M_account_o6 kd lb wo tt ld pt pw rc rp pr)] ++ Z) H := by rw [show f_M_account_o3 kd lb wo tt ld pt pw rc rp pr = 0 by (rw [f_M_account_o3, if_pos c67] <;> rfl), show f_M_account_o4 kd lb wo tt ld pt pw rc rp pr = 0 by (rw [f_M_account_o4, if_pos c67] <;> rfl), show nI (f_M_account_o5 kd lb wo tt ld pt pw rc rp pr) = nI (rc + 1) by (rw [f_M_account_o5, if_pos c67] <;> rfl), show f_M_account_o6 kd lb wo tt ld pt pw rc rp pr = vp_updL rp rc ((pt + ((f_M_cost kd lb pr) * (Int32.toInt64 wo))) / (pw + (Int32.toInt64 wo))) by (rw [f_M_account_o6, if_pos c67] <;> rfl)]; exact hP
    have hD : va_D A ([hq_o8 h (nI n) kd ru ya (nI sz) ta la (nI rg) (nI so) (hq_z bg) (nI nc) lfa rta lb wo (nI ft) fha fva fla (nI sp) (nI tc) tha tva wa sa ca va (tt + ((f_M_cost kd lb pr) * (Int32.toInt64 wo))) (ld + 1) (f_M_account_o3 kd lb wo tt ld pt pw rc rp pr) (f_M_account_o4 kd lb wo tt ld pt pw rc rp pr) (nI (f_M_account_o5 kd lb wo tt ld pt pw rc rp pr)) ra wn, hq_al ra (G 1) 12 (f_M_account_o6 kd lb wo tt ld pt pw rc rp pr)] ++ Z) := by rw [show f_M_account_o3 kd lb wo tt ld pt pw rc rp pr = 0 by (rw [f_M_account_o3, if_pos c67] <;> rfl), show f_M_account_o4 kd lb wo tt ld pt pw rc rp pr = 0 by (rw [f_M_account_o4, if_pos c67] <;> rfl), show nI (f_M_account_o5 kd lb wo tt ld pt pw rc rp pr) = nI (rc + 1) by (rw [f_M_account_o5, if_pos c67] <;> rfl), show f_M_account_o6 kd lb wo tt ld pt pw rc rp pr = vp_updL rp rc ((pt + ((f_M_cost kd lb pr) * (Int32.toInt64 wo))) / (pw + (Int32.toInt64 wo))) by (rw [f_M_account_o6, if_pos c67] <;> rfl)]; exact hD
    exact hret () H locs 108 ls d_M_account_108 (trivial) hP hD hS
