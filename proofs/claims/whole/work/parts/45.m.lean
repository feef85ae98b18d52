theorem d_M_line_0 : decode b_M_line 0 = .ok (.aload_n 0, 1) := by decide +kernel
theorem d_M_line_1 : decode b_M_line 1 = .ok (.getfield 222, 3) := by decide +kernel
theorem d_M_line_4 : decode b_M_line 4 = .ok (.iconst 4, 1) := by decide +kernel
theorem d_M_line_5 : decode b_M_line 5 = .ok (.if_icmp .lt (6), 3) := by decide +kernel
theorem d_M_line_8 : decode b_M_line 8 = .ok (.bipush (-2), 2) := by decide +kernel
theorem d_M_line_10 : decode b_M_line 10 = .ok (.ireturn, 1) := by decide +kernel
theorem d_M_line_11 : decode b_M_line 11 = .ok (.iconst 0, 1) := by decide +kernel
theorem d_M_line_12 : decode b_M_line 12 = .ok (.istore_n 1, 1) := by decide +kernel
theorem d_M_line_13 : decode b_M_line 13 = .ok (.iload_n 1, 1) := by decide +kernel
theorem d_M_line_14 : decode b_M_line 14 = .ok (.aload_n 0, 1) := by decide +kernel
theorem d_M_line_15 : decode b_M_line 15 = .ok (.getfield 71, 3) := by decide +kernel
theorem d_M_line_18 : decode b_M_line 18 = .ok (.if_icmp .ge (29), 3) := by decide +kernel
theorem d_M_line_21 : decode b_M_line 21 = .ok (.aload_n 0, 1) := by decide +kernel
theorem d_M_line_22 : decode b_M_line 22 = .ok (.getfield 13, 3) := by decide +kernel
theorem d_M_line_25 : decode b_M_line 25 = .ok (.bipush (100), 2) := by decide +kernel
theorem d_M_line_27 : decode b_M_line 27 = .ok (.aload_n 0, 1) := by decide +kernel
theorem d_M_line_28 : decode b_M_line 28 = .ok (.getfield 222, 3) := by decide +kernel
theorem d_M_line_31 : decode b_M_line 31 = .ok (.imul, 1) := by decide +kernel
theorem d_M_line_32 : decode b_M_line 32 = .ok (.iload_n 1, 1) := by decide +kernel
theorem d_M_line_33 : decode b_M_line 33 = .ok (.iadd, 1) := by decide +kernel
theorem d_M_line_34 : decode b_M_line 34 = .ok (.aload_n 0, 1) := by decide +kernel
theorem d_M_line_35 : decode b_M_line 35 = .ok (.getfield 7, 3) := by decide +kernel
theorem d_M_line_38 : decode b_M_line 38 = .ok (.iload_n 1, 1) := by decide +kernel
theorem d_M_line_39 : decode b_M_line 39 = .ok (.iaload, 1) := by decide +kernel
theorem d_M_line_40 : decode b_M_line 40 = .ok (.iastore, 1) := by decide +kernel
theorem d_M_line_41 : decode b_M_line 41 = .ok (.iinc 1 (1), 3) := by decide +kernel
theorem d_M_line_44 : decode b_M_line 44 = .ok (.goto (-31), 3) := by decide +kernel
theorem d_M_line_47 : decode b_M_line 47 = .ok (.aload_n 0, 1) := by decide +kernel
theorem d_M_line_48 : decode b_M_line 48 = .ok (.getfield 16, 3) := by decide +kernel
theorem d_M_line_51 : decode b_M_line 51 = .ok (.aload_n 0, 1) := by decide +kernel
theorem d_M_line_52 : decode b_M_line 52 = .ok (.getfield 222, 3) := by decide +kernel
theorem d_M_line_55 : decode b_M_line 55 = .ok (.aload_n 0, 1) := by decide +kernel
theorem d_M_line_56 : decode b_M_line 56 = .ok (.getfield 71, 3) := by decide +kernel
theorem d_M_line_59 : decode b_M_line 59 = .ok (.iastore, 1) := by decide +kernel
theorem d_M_line_60 : decode b_M_line 60 = .ok (.aload_n 0, 1) := by decide +kernel
theorem d_M_line_61 : decode b_M_line 61 = .ok (.iconst 0, 1) := by decide +kernel
theorem d_M_line_62 : decode b_M_line 62 = .ok (.putfield 71, 3) := by decide +kernel
theorem d_M_line_65 : decode b_M_line 65 = .ok (.aload_n 0, 1) := by decide +kernel
theorem d_M_line_66 : decode b_M_line 66 = .ok (.aload_n 0, 1) := by decide +kernel
theorem d_M_line_67 : decode b_M_line 67 = .ok (.getfield 222, 3) := by decide +kernel
theorem d_M_line_70 : decode b_M_line 70 = .ok (.invokevirtual 164, 3) := by decide +kernel
theorem d_M_line_73 : decode b_M_line 73 = .ok (.ifCond .ne (15), 3) := by decide +kernel
theorem d_M_line_76 : decode b_M_line 76 = .ok (.aload_n 0, 1) := by decide +kernel
theorem d_M_line_77 : decode b_M_line 77 = .ok (.dup, 1) := by decide +kernel
theorem d_M_line_78 : decode b_M_line 78 = .ok (.getfield 225, 3) := by decide +kernel
theorem d_M_line_81 : decode b_M_line 81 = .ok (.iconst 1, 1) := by decide +kernel
theorem d_M_line_82 : decode b_M_line 82 = .ok (.iadd, 1) := by decide +kernel
theorem d_M_line_83 : decode b_M_line 83 = .ok (.putfield 225, 3) := by decide +kernel
theorem d_M_line_86 : decode b_M_line 86 = .ok (.iconst (-1), 1) := by decide +kernel
theorem d_M_line_87 : decode b_M_line 87 = .ok (.ireturn, 1) := by decide +kernel
theorem d_M_line_88 : decode b_M_line 88 = .ok (.aload_n 0, 1) := by decide +kernel
theorem d_M_line_89 : decode b_M_line 89 = .ok (.dup, 1) := by decide +kernel
theorem d_M_line_90 : decode b_M_line 90 = .ok (.getfield 222, 3) := by decide +kernel
theorem d_M_line_93 : decode b_M_line 93 = .ok (.iconst 1, 1) := by decide +kernel
theorem d_M_line_94 : decode b_M_line 94 = .ok (.iadd, 1) := by decide +kernel
theorem d_M_line_95 : decode b_M_line 95 = .ok (.putfield 222, 3) := by decide +kernel
theorem d_M_line_98 : decode b_M_line 98 = .ok (.aload_n 0, 1) := by decide +kernel
theorem d_M_line_99 : decode b_M_line 99 = .ok (.iconst 1, 1) := by decide +kernel
theorem d_M_line_100 : decode b_M_line 100 = .ok (.putfield 81, 3) := by decide +kernel
theorem d_M_line_103 : decode b_M_line 103 = .ok (.aload_n 0, 1) := by decide +kernel
theorem d_M_line_104 : decode b_M_line 104 = .ok (.getfield 119, 3) := by decide +kernel
theorem d_M_line_107 : decode b_M_line 107 = .ok (.ireturn, 1) := by decide +kernel
set_option maxHeartbeats 4000000 in
set_option maxRecDepth 100000 in
theorem c_M_line_full (l : Launch) (D : va_G) (G : Nat → ClassId) (A : Nat → Prop) (Z : va_W) (h : Nat) (n : Nat) (kd : Int32) (ru : Int32) (ya : Nat) (sz : Nat) (ta : Nat) (la : Nat) (rg : Nat) (so : Nat) (bg : Bool) (nc : Nat) (lfa : Nat) (rta : Nat) (lb : Int32) (wo : Int32) (ft : Nat) (fha : Nat) (fva : Nat) (fla : Nat) (sp : Nat) (tc : Nat) (tha : Nat) (tva : Nat) (wa : Nat) (sa : Nat) (ca : Nat) (va : Nat) (tt : Int64) (ld : Int32) (pt : Int64) (pw : Int64) (rc : Nat) (ra : Nat) (wn : Int32) (hrg : 4 ≤ rg) (hrg2 : rg < 2 ^ 30) : hq_FI l D G A y_M_line b_M_line 2 .int 0 [.ref h] ([hq_o8 h (nI n) kd ru ya (nI sz) ta la (nI rg) (nI so) (hq_z bg) (nI nc) lfa rta lb wo (nI ft) fha fva fla (nI sp) (nI tc) tha tva wa sa ca va tt ld pt pw (nI rc) ra wn] ++ Z) ((-2)) ([hq_o8 h (nI n) kd ru ya (nI sz) ta la (nI rg) (nI so) (hq_z bg) (nI nc) lfa rta lb wo (nI ft) fha fva fla (nI sp) (nI tc) tha tva wa sa ca va tt ld pt pw (nI rc) ra wn] ++ Z) := by
  refine hq_bI (by decide) (Nat.le_of_ble_eq_true rfl) (fun _ _ _ => rfl) ?_
  intro p e s m args below meth c Q hx hb hml hts hown hA hK hN hret ls H locs hl hP hD hS
  have hown : s.vm.findClass "HashedLearnerModel" = some m.cls := hown
  have hl : lv_has ls 2 [(0, .ref h)] := hl
  refine lv_aload_n hx hb d_M_line_0 rfl (lv_at hl 0 rfl) ?_
  refine va_get (D := D) (ci := 8) (v := .int (nI rg)) (C := R_M) (T := F_M) (N := 34) hx hb hts uw_M hown hK hP 0 rfl rfl 7 (by decide) (hts _ fl_M_222) (fun _ h9 => h9) rfl d_M_line_1 ?_
  refine lv_iconst (v := 4) hx hb d_M_line_4 (by decide) ?_
  refine lv_icmp_lt (tgt := 11) hx hb d_M_line_5 rfl (fun c5 => ?_) (fun c5 => ?_)
  · -- 5 taken
    have c5 : rg < 4 := (nI_ltI (a := rg) (b := 4) (by omega) (by omega)).mp c5
    exact absurd c5 (by omega)
  · -- 5 not taken
    have c5 : ¬ rg < 4 := fun h => c5 ((nI_ltI (a := rg) (b := 4) (by omega) (by omega)).mpr h)
    refine lv_bipush (v := (-2)) hx hb d_M_line_8 (by decide) ?_
    exact hret (-2) () H locs 10 ls d_M_line_10 (by simp [c5]) hP hD hS
set_option maxHeartbeats 4000000 in
set_option maxRecDepth 100000 in
theorem c_M_line_bad (l : Launch) (D : va_G) (G : Nat → ClassId) (A : Nat → Prop) (Z : va_W) (h : Nat) (n : Nat) (kd : Int32) (ru : Int32) (ya : Nat) (sz : Nat) (ta : Nat) (la : Nat) (rg : Nat) (so : Nat) (bg : Bool) (nc : Nat) (lfa : Nat) (rta : Nat) (lb : Int32) (wo : Int32) (ft : Nat) (fha : Nat) (fva : Nat) (fla : Nat) (sp : Nat) (tc : Nat) (tha : Nat) (tva : Nat) (wa : Nat) (sa : Nat) (ca : Nat) (va : Nat) (tt : Int64) (ld : Int32) (pt : Int64) (pw : Int64) (rc : Nat) (ra : Nat) (wn : Int32) (ty : Nat → Int32) (ln : Nat → Int32) (tx : Nat → Int32) (fh : Nat → Int32) (fv : Nat → Int32) (fl : Nat → Int32) (hrg : rg < 4) (hsz : sz ≤ 100) (ht : ∀ q, q < sz → hq_ch (ty q)) (hpar : hq_par ty sz = none) : hq_MI l D G A y_M_line b_M_line 2 .int 6 0 0 [.ref h] ([hq_o8 h (nI n) kd ru ya (nI sz) ta la (nI rg) (nI so) (hq_z bg) (nI nc) lfa rta lb wo (nI ft) fha fva fla (nI sp) (nI tc) tha tva wa sa ca va tt ld pt pw (nI rc) ra wn, hq_ai ya (G 0) 100 ty, hq_ai la (G 0) 20 ln, hq_ai ta (G 0) 2000 tx, hq_ai fha (G 0) 12 fh, hq_ai fva (G 0) 12 fv, hq_ai fla (G 0) 12 fl] ++ Z) (fun r (u : (Int32 × Int32 × Nat) × (Nat → Int32) × (Nat → Int32) × (Nat → Int32) × Nat) => r = (-1)) (fun (u : (Int32 × Int32 × Nat) × (Nat → Int32) × (Nat → Int32) × (Nat → Int32) × Nat) => [hq_o8 h (nI n) kd ru ya (nI 0) ta la (nI rg) (nI so) (hq_z bg) (nI nc) lfa rta u.1.1 u.1.2.1 (nI u.2.2.2.2) fha fva fla (nI u.1.2.2) (nI tc) tha tva wa sa ca va tt ld pt pw (nI rc) ra (wn + 1), hq_ai ya (G 0) 100 ty, hq_ai la (G 0) 20 (upd ln rg (nI sz)), hq_ai ta (G 0) 2000 (hq_cpY tx ty rg sz), hq_ai fha (G 0) 12 u.2.1, hq_ai fva (G 0) 12 u.2.2.1, hq_ai fla (G 0) 12 u.2.2.2.1] ++ Z) := by
  refine hq_bI (by decide) (Nat.le_of_ble_eq_true rfl) (fun _ _ _ => rfl) ?_
  intro p e s m args below meth c Q hx hb hml hts hown hA hK hN hret ls H locs hl hP hD hS
  have hown : s.vm.findClass "HashedLearnerModel" = some m.cls := hown
  have hl : lv_has ls 2 [(0, .ref h)] := hl
  refine lv_aload_n hx hb d_M_line_0 rfl (lv_at hl 0 rfl) ?_
  refine va_get (D := D) (ci := 8) (v := .int (nI rg)) (C := R_M) (T := F_M) (N := 34) hx hb hts uw_M hown hK hP 0 rfl rfl 7 (by decide) (hts _ fl_M_222) (fun _ h9 => h9) rfl d_M_line_1 ?_
  refine lv_iconst (v := 4) hx hb d_M_line_4 (by decide) ?_
  refine lv_icmp_lt (tgt := 11) hx hb d_M_line_5 rfl (fun c5 => ?_) (fun c5 => ?_)
  · -- 5 taken
    have c5 : rg < 4 := (nI_ltI (a := rg) (b := 4) (by omega) (by omega)).mp c5
    refine lv_iconst (v := nI 0) hx hb d_M_line_11 (by decide) ?_
    refine lv_istore_n (nL := 2) (lv' := [(1, .int (nI 0)), (0, .ref h)]) hx hb d_M_line_12 rfl hl (by decide) rfl (fun ls hl => ?_)
    have cut13 : ∀ (kz : Nat) (q : Nat) (ls : Array Slot) (H : Heap) (locs : List Loc), sz - q = kz → (q ≤ sz) → lv_has ls 2 [(0, .ref h), (1, .int (nI q))] → va_P D hq_cl ([hq_o8 h (nI n) kd ru ya (nI sz) ta la (nI rg) (nI so) (hq_z bg) (nI nc) lfa rta lb wo (nI ft) fha fva fla (nI sp) (nI tc) tha tva wa sa ca va tt ld pt pw (nI rc) ra wn, hq_ai ya (G 0) 100 ty, hq_ai la (G 0) 20 ln, hq_ai ta (G 0) 2000 (hq_cpY tx ty rg q), hq_ai fha (G 0) 12 fh, hq_ai fva (G 0) 12 fv, hq_ai fla (G 0) 12 fl] ++ Z) H → va_D A ([hq_o8 h (nI n) kd ru ya (nI sz) ta la (nI rg) (nI so) (hq_z bg) (nI nc) lfa rta lb wo (nI ft) fha fva fla (nI sp) (nI tc) tha tva wa sa ca va tt ld pt pw (nI rc) ra wn, hq_ai ya (G 0) 100 ty, hq_ai la (G 0) 20 ln, hq_ai ta (G 0) 2000 (hq_cpY tx ty rg q), hq_ai fha (G 0) 12 fh, hq_ai fva (G 0) 12 fv, hq_ai fla (G 0) 12 fl] ++ Z) → va_S A s.heap H locs → W p l e (hq_rm 6 0 0) s m args below meth c H locs 0 0 Q (F0 m 13 ls []) := by
      intro kz
      induction kz using Nat.strongRecOn with
      | ind kz ih =>
        intro q ls H locs hkz hq hl hP hD hS
        subst hkz
        refine lv_iload_n hx hb d_M_line_13 rfl (lv_at hl 1 rfl) ?_
        refine lv_aload_n hx hb d_M_line_14 rfl (lv_at hl 0 rfl) ?_
        refine va_get (D := D) (ci := 8) (v := .int (nI sz)) (C := R_M) (T := F_M) (N := 34) hx hb hts uw_M hown hK hP 0 rfl rfl 4 (by decide) (hts _ fl_M_71) (fun _ h9 => h9) rfl d_M_line_15 ?_
        refine lv_icmp_ge (tgt := 47) hx hb d_M_line_18 rfl (fun c18 => ?_) (fun c18 => ?_)
        · -- 18 taken
          have c18 : sz ≤ q := (nI_leI (a := sz) (b := q) (by omega) (by omega)).mp c18
          have hq9 : q = sz := by omega
          rw [hq9] at hP hD
          have hP : va_P D hq_cl ([hq_o8 h (nI n) kd ru ya (nI sz) ta la (nI rg) (nI so) (hq_z bg) (nI nc) lfa rta lb wo (nI ft) fha fva fla (nI sp) (nI tc) tha tva wa sa ca va tt ld pt pw (nI rc) ra wn, hq_ai ya (G 0) 100 ty, hq_ai la (G 0) 20 ln, hq_ai ta (G 0) 2000 (hq_cpY tx ty rg sz), hq_ai fha (G 0) 12 fh, hq_ai fva (G 0) 12 fv, hq_ai fla (G 0) 12 fl] ++ Z) H := hP
          have hD : va_D A ([hq_o8 h (nI n) kd ru ya (nI sz) ta la (nI rg) (nI so) (hq_z bg) (nI nc) lfa rta lb wo (nI ft) fha fva fla (nI sp) (nI tc) tha tva wa sa ca va tt ld pt pw (nI rc) ra wn, hq_ai ya (G 0) 100 ty, hq_ai la (G 0) 20 ln, hq_ai ta (G 0) 2000 (hq_cpY tx ty rg sz), hq_ai fha (G 0) 12 fh, hq_ai fva (G 0) 12 fv, hq_ai fla (G 0) 12 fl] ++ Z) := hD
          refine lv_aload_n hx hb d_M_line_47 rfl (lv_at hl 0 rfl) ?_
          refine va_get (D := D) (ci := 8) (v := .ref la) (C := R_M) (T := F_M) (N := 34) hx hb hts uw_M hown hK hP 0 rfl rfl 6 (by decide) (hts _ fl_M_16) (fun _ h9 => h9) rfl d_M_line_48 ?_
          refine lv_aload_n hx hb d_M_line_51 rfl (lv_at hl 0 rfl) ?_
          refine va_get (D := D) (ci := 8) (v := .int (nI rg)) (C := R_M) (T := F_M) (N := 34) hx hb hts uw_M hown hK hP 0 rfl rfl 7 (by decide) (hts _ fl_M_222) (fun _ h9 => h9) rfl d_M_line_52 ?_
          refine lv_aload_n hx hb d_M_line_55 rfl (lv_at hl 0 rfl) ?_
          refine va_get (D := D) (ci := 8) (v := .int (nI sz)) (C := R_M) (T := F_M) (N := 34) hx hb hts uw_M hown hK hP 0 rfl rfl 4 (by decide) (hts _ fl_M_71) (fun _ h9 => h9) rfl d_M_line_56 ?_
          refine hq_iast (j := rg) hx hb hK hP hD hS 2 rfl (by omega) (by omega) d_M_line_59 (fun H locs hP hD hS => ?_)
          have hP : va_P D hq_cl ([hq_o8 h (nI n) kd ru ya (nI sz) ta la (nI rg) (nI so) (hq_z bg) (nI nc) lfa rta lb wo (nI ft) fha fva fla (nI sp) (nI tc) tha tva wa sa ca va tt ld pt pw (nI rc) ra wn, hq_ai ya (G 0) 100 ty, hq_ai la (G 0) 20 (upd ln rg (nI sz)), hq_ai ta (G 0) 2000 (hq_cpY tx ty rg sz), hq_ai fha (G 0) 12 fh, hq_ai fva (G 0) 12 fv, hq_ai fla (G 0) 12 fl] ++ Z) H := hP
          have hD : va_D A ([hq_o8 h (nI n) kd ru ya (nI sz) ta la (nI rg) (nI so) (hq_z bg) (nI nc) lfa rta lb wo (nI ft) fha fva fla (nI sp) (nI tc) tha tva wa sa ca va tt ld pt pw (nI rc) ra wn, hq_ai ya (G 0) 100 ty, hq_ai la (G 0) 20 (upd ln rg (nI sz)), hq_ai ta (G 0) 2000 (hq_cpY tx ty rg sz), hq_ai fha (G 0) 12 fh, hq_ai fva (G 0) 12 fv, hq_ai fla (G 0) 12 fl] ++ Z) := hD
          refine lv_aload_n hx hb d_M_line_60 rfl (lv_at hl 0 rfl) ?_
          refine lv_iconst (v := nI 0) hx hb d_M_line_61 (by decide) ?_
          refine va_put (D := D) (ci := 8) (v := .int (nI 0)) (ty := .int) (C := R_M) (T := F_M) (N := 34) hx hb hts uw_M t_M t_M_ok n_M hown hK hP hD hS 0 rfl rfl 4 (by decide) (hts _ fl_M_71) (fun _ h9 => h9) rfl (by decide +kernel) (rfl) (rfl) (Nat.le_of_ble_eq_true rfl) d_M_line_62 (fun H locs hP hD hS => ?_)
          have hP : va_P D hq_cl ([hq_o8 h (nI n) kd ru ya (nI 0) ta la (nI rg) (nI so) (hq_z bg) (nI nc) lfa rta lb wo (nI ft) fha fva fla (nI sp) (nI tc) tha tva wa sa ca va tt ld pt pw (nI rc) ra wn, hq_ai ya (G 0) 100 ty, hq_ai la (G 0) 20 (upd ln rg (nI sz)), hq_ai ta (G 0) 2000 (hq_cpY tx ty rg sz), hq_ai fha (G 0) 12 fh, hq_ai fva (G 0) 12 fv, hq_ai fla (G 0) 12 fl] ++ Z) H := hP
          have hD : va_D A ([hq_o8 h (nI n) kd ru ya (nI 0) ta la (nI rg) (nI so) (hq_z bg) (nI nc) lfa rta lb wo (nI ft) fha fva fla (nI sp) (nI tc) tha tva wa sa ca va tt ld pt pw (nI rc) ra wn, hq_ai ya (G 0) 100 ty, hq_ai la (G 0) 20 (upd ln rg (nI sz)), hq_ai ta (G 0) 2000 (hq_cpY tx ty rg sz), hq_ai fha (G 0) 12 fh, hq_ai fva (G 0) 12 fv, hq_ai fla (G 0) 12 fl] ++ Z) := hD
          refine lv_aload_n hx hb d_M_line_65 rfl (lv_at hl 0 rfl) ?_
          refine lv_aload_n hx hb d_M_line_66 rfl (lv_at hl 0 rfl) ?_
          refine va_get (D := D) (ci := 8) (v := .int (nI rg)) (C := R_M) (T := F_M) (N := 34) hx hb hts uw_M hown hK hP 0 rfl rfl 7 (by decide) (hts _ fl_M_222) (fun _ h9 => h9) rfl d_M_line_67 ?_
          have hPc : va_P D hq_cl ([hq_o8 h (nI n) kd ru ya (nI 0) ta la (nI rg) (nI so) (hq_z bg) (nI nc) lfa rta lb wo (nI ft) fha fva fla (nI sp) (nI tc) tha tva wa sa ca va tt ld pt pw (nI rc) ra wn, hq_ai la (G 0) 20 (upd ln rg (nI sz)), hq_ai ta (G 0) 2000 (hq_cpY tx ty rg sz), hq_ai fha (G 0) 12 fh, hq_ai fva (G 0) 12 fv, hq_ai fla (G 0) 12 fl] ++ ([hq_ai ya (G 0) 100 ty] ++ Z)) H := va_P.part (cx := [hq_o8 h (nI n) kd ru ya (nI 0) ta la (nI rg) (nI so) (hq_z bg) (nI nc) lfa rta lb wo (nI ft) fha fva fla (nI sp) (nI tc) tha tva wa sa ca va tt ld pt pw (nI rc) ra wn, hq_ai la (G 0) 20 (upd ln rg (nI sz)), hq_ai ta (G 0) 2000 (hq_cpY tx ty rg sz), hq_ai fha (G 0) 12 fh, hq_ai fva (G 0) 12 fv, hq_ai fla (G 0) 12 fl, hq_ai ya (G 0) 100 ty]) hP [0, 2, 3, 4, 5, 6, 1] rfl
          have hDc : va_D A ([hq_o8 h (nI n) kd ru ya (nI 0) ta la (nI rg) (nI so) (hq_z bg) (nI nc) lfa rta lb wo (nI ft) fha fva fla (nI sp) (nI tc) tha tva wa sa ca va tt ld pt pw (nI rc) ra wn, hq_ai la (G 0) 20 (upd ln rg (nI sz)), hq_ai ta (G 0) 2000 (hq_cpY tx ty rg sz), hq_ai fha (G 0) 12 fh, hq_ai fva (G 0) 12 fv, hq_ai fla (G 0) 12 fl] ++ ([hq_ai ya (G 0) 100 ty] ++ Z)) := va_D.part (cx := [hq_o8 h (nI n) kd ru ya (nI 0) ta la (nI rg) (nI so) (hq_z bg) (nI nc) lfa rta lb wo (nI ft) fha fva fla (nI sp) (nI tc) tha tva wa sa ca va tt ld pt pw (nI rc) ra wn, hq_ai la (G 0) 20 (upd ln rg (nI sz)), hq_ai ta (G 0) 2000 (hq_cpY tx ty rg sz), hq_ai fha (G 0) 12 fh, hq_ai fva (G 0) 12 fv, hq_ai fla (G 0) 12 fl, hq_ai ya (G 0) 100 ty]) hD [0, 2, 3, 4, 5, 6, 1] (by decide) rfl
          refine hq_i (hq_rV (As := [.int (nI rg)]) (rest := []) hx hb hml hown hts (c_M_parse l D G A ([hq_ai ya (G 0) 100 ty] ++ Z) h n kd ru ya 0 ta la rg so bg nc lfa rta lb wo ft fha fva fla sp tc tha tva wa sa ca va tt ld pt pw rc ra wn (hq_cpY tx ty rg sz) (upd ln rg (nI sz)) fh fv fl rg sz ty (by omega) (pk_us) (by first | assumption | omega) (hq_cpY_at) (by first | assumption | omega)) yy_M_parse lk_M_164 hA hK hN hS hPc hDc 0 8 rfl rfl rfl hl.1 rfl (Nat.le_of_ble_eq_true rfl) d_M_line_70 ⟨by decide, by decide⟩ ⟨by decide, by decide⟩) hS (fun r70 u70 H locs w70 hP hD hS => ?_)
          have hP : va_P D hq_cl ([hq_o8 h (nI n) kd ru ya (nI 0) ta la (nI rg) (nI so) (hq_z bg) (nI nc) lfa rta u70.1.1 u70.1.2.1 (nI u70.2.2.2.2) fha fva fla (nI u70.1.2.2) (nI tc) tha tva wa sa ca va tt ld pt pw (nI rc) ra wn, hq_ai la (G 0) 20 (upd ln rg (nI sz)), hq_ai ta (G 0) 2000 (hq_cpY tx ty rg sz), hq_ai fha (G 0) 12 u70.2.1, hq_ai fva (G 0) 12 u70.2.2.1, hq_ai fla (G 0) 12 u70.2.2.2.1, hq_ai ya (G 0) 100 ty] ++ Z) H := hP
          have hD : va_D A ([hq_o8 h (nI n) kd ru ya (nI 0) ta la (nI rg) (nI so) (hq_z bg) (nI nc) lfa rta u70.1.1 u70.1.2.1 (nI u70.2.2.2.2) fha fva fla (nI u70.1.2.2) (nI tc) tha tva wa sa ca va tt ld pt pw (nI rc) ra wn, hq_ai la (G 0) 20 (upd ln rg (nI sz)), hq_ai ta (G 0) 2000 (hq_cpY tx ty rg sz), hq_ai fha (G 0) 12 u70.2.1, hq_ai fva (G 0) 12 u70.2.2.1, hq_ai fla (G 0) 12 u70.2.2.2.1, hq_ai ya (G 0) 100 ty] ++ Z) := hD
          obtain ⟨⟨lb2, wo2, sp2⟩, fh2, fv2, fl2, k2⟩ := u70
          obtain ⟨w70, hk2, hR2⟩ := w70
          rw [hpar] at w70
          have w70 : r70 = 0 := w70
          subst w70
          have hP : va_P D hq_cl ([hq_o8 h (nI n) kd ru ya (nI 0) ta la (nI rg) (nI so) (hq_z bg) (nI nc) lfa rta lb2 wo2 (nI k2) fha fva fla (nI sp2) (nI tc) tha tva wa sa ca va tt ld pt pw (nI rc) ra wn, hq_ai la (G 0) 20 (upd ln rg (nI sz)), hq_ai ta (G 0) 2000 (hq_cpY tx ty rg sz), hq_ai fha (G 0) 12 fh2, hq_ai fva (G 0) 12 fv2, hq_ai fla (G 0) 12 fl2, hq_ai ya (G 0) 100 ty] ++ Z) H := hP
          have hD : va_D A ([hq_o8 h (nI n) kd ru ya (nI 0) ta la (nI rg) (nI so) (hq_z bg) (nI nc) lfa rta lb2 wo2 (nI k2) fha fva fla (nI sp2) (nI tc) tha tva wa sa ca va tt ld pt pw (nI rc) ra wn, hq_ai la (G 0) 20 (upd ln rg (nI sz)), hq_ai ta (G 0) 2000 (hq_cpY tx ty rg sz), hq_ai fha (G 0) 12 fh2, hq_ai fva (G 0) 12 fv2, hq_ai fla (G 0) 12 fl2, hq_ai ya (G 0) 100 ty] ++ Z) := hD
          refine lv_if_ne (tgt := 88) hx hb d_M_line_73 rfl (fun c73 => ?_) (fun c73 => ?_)
          · exact absurd (by decide) c73
          · skip
            refine lv_aload_n hx hb d_M_line_76 rfl (lv_at hl 0 rfl) ?_
            refine lv_dup hx hb d_M_line_77 rfl ?_
            refine va_get (D := D) (ci := 8) (v := .int wn) (C := R_M) (T := F_M) (N := 34) hx hb hts uw_M hown hK hP 0 rfl rfl 33 (by decide) (hts _ fl_M_225) (fun _ h9 => h9) rfl d_M_line_78 ?_
            refine lv_iconst (v := 1) hx hb d_M_line_81 (by decide) ?_
            refine lv_iadd hx hb d_M_line_82 ?_
            refine va_put (D := D) (ci := 8) (v := .int (wn + 1)) (ty := .int) (C := R_M) (T := F_M) (N := 34) hx hb hts uw_M t_M t_M_ok n_M hown hK hP hD hS 0 rfl rfl 33 (by decide) (hts _ fl_M_225) (fun _ h9 => h9) rfl (by decide +kernel) (rfl) (rfl) (Nat.le_of_ble_eq_true rfl) d_M_line_83 (fun H locs hP hD hS => ?_)
            have hP : va_P D hq_cl ([hq_o8 h (nI n) kd ru ya (nI 0) ta la (nI rg) (nI so) (hq_z bg) (nI nc) lfa rta lb2 wo2 (nI k2) fha fva fla (nI sp2) (nI tc) tha tva wa sa ca va tt ld pt pw (nI rc) ra (wn + 1), hq_ai la (G 0) 20 (upd ln rg (nI sz)), hq_ai ta (G 0) 2000 (hq_cpY tx ty rg sz), hq_ai fha (G 0) 12 fh2, hq_ai fva (G 0) 12 fv2, hq_ai fla (G 0) 12 fl2, hq_ai ya (G 0) 100 ty] ++ Z) H := hP
            have hD : va_D A ([hq_o8 h (nI n) kd ru ya (nI 0) ta la (nI rg) (nI so) (hq_z bg) (nI nc) lfa rta lb2 wo2 (nI k2) fha fva fla (nI sp2) (nI tc) tha tva wa sa ca va tt ld pt pw (nI rc) ra (wn + 1), hq_ai la (G 0) 20 (upd ln rg (nI sz)), hq_ai ta (G 0) 2000 (hq_cpY tx ty rg sz), hq_ai fha (G 0) 12 fh2, hq_ai fva (G 0) 12 fv2, hq_ai fla (G 0) 12 fl2, hq_ai ya (G 0) 100 ty] ++ Z) := hD
            refine lv_iconst (v := (-1)) hx hb d_M_line_86 (by decide) ?_
            have hP := va_P.part (cx := [hq_o8 h (nI n) kd ru ya (nI 0) ta la (nI rg) (nI so) (hq_z bg) (nI nc) lfa rta lb2 wo2 (nI k2) fha fva fla (nI sp2) (nI tc) tha tva wa sa ca va tt ld pt pw (nI rc) ra (wn + 1), hq_ai ya (G 0) 100 ty, hq_ai la (G 0) 20 (upd ln rg (nI sz)), hq_ai ta (G 0) 2000 (hq_cpY tx ty rg sz), hq_ai fha (G 0) 12 fh2, hq_ai fva (G 0) 12 fv2, hq_ai fla (G 0) 12 fl2]) hP [0, 6, 1, 2, 3, 4, 5] rfl
            have hD := va_D.part (cx := [hq_o8 h (nI n) kd ru ya (nI 0) ta la (nI rg) (nI so) (hq_z bg) (nI nc) lfa rta lb2 wo2 (nI k2) fha fva fla (nI sp2) (nI tc) tha tva wa sa ca va tt ld pt pw (nI rc) ra (wn + 1), hq_ai ya (G 0) 100 ty, hq_ai la (G 0) 20 (upd ln rg (nI sz)), hq_ai ta (G 0) 2000 (hq_cpY tx ty rg sz), hq_ai fha (G 0) 12 fh2, hq_ai fva (G 0) 12 fv2, hq_ai fla (G 0) 12 fl2]) hD [0, 6, 1, 2, 3, 4, 5] (by decide) rfl
            exact hret (-1) ((lb2, wo2, sp2), fh2, fv2, fl2, k2) H locs 87 ls d_M_line_87 (rfl) hP hD hS
        · -- 18 not taken
          have c18 : ¬ sz ≤ q := fun h => c18 ((nI_leI (a := sz) (b := q) (by omega) (by omega)).mpr h)
          refine lv_aload_n hx hb d_M_line_21 rfl (lv_at hl 0 rfl) ?_
          refine va_get (D := D) (ci := 8) (v := .ref ta) (C := R_M) (T := F_M) (N := 34) hx hb hts uw_M hown hK hP 0 rfl rfl 5 (by decide) (hts _ fl_M_13) (fun _ h9 => h9) rfl d_M_line_22 ?_
          refine lv_bipush (v := nI 100) hx hb d_M_line_25 (by decide) ?_
          refine lv_aload_n hx hb d_M_line_27 rfl (lv_at hl 0 rfl) ?_
          refine va_get (D := D) (ci := 8) (v := .int (nI rg)) (C := R_M) (T := F_M) (N := 34) hx hb hts uw_M hown hK hP 0 rfl rfl 7 (by decide) (hts _ fl_M_222) (fun _ h9 => h9) rfl d_M_line_28 ?_
          refine lv_imul hx hb d_M_line_31 ?_
          refine hq_topi (x' := nI (100 * rg)) (pk_mul 100 rg) ?_
          refine lv_iload_n hx hb d_M_line_32 rfl (lv_at hl 1 rfl) ?_
          refine lv_iadd hx hb d_M_line_33 ?_
          refine hq_topi (x' := nI ((100 * rg) + q)) (nI_add (100 * rg) q) ?_
          refine lv_aload_n hx hb d_M_line_34 rfl (lv_at hl 0 rfl) ?_
          refine va_get (D := D) (ci := 8) (v := .ref ya) (C := R_M) (T := F_M) (N := 34) hx hb hts uw_M hown hK hP 0 rfl rfl 3 (by decide) (hts _ fl_M_7) (fun _ h9 => h9) rfl d_M_line_35 ?_
          refine lv_iload_n hx hb d_M_line_38 rfl (lv_at hl 1 rfl) ?_
          refine hq_iald (j := q) hx hb hK hP 1 rfl (by omega) (by omega) d_M_line_39 ?_
          refine hq_iast (j := (100 * rg) + q) hx hb hK hP hD hS 3 rfl (by omega) (by omega) d_M_line_40 (fun H locs hP hD hS => ?_)
          have hP : va_P D hq_cl ([hq_o8 h (nI n) kd ru ya (nI sz) ta la (nI rg) (nI so) (hq_z bg) (nI nc) lfa rta lb wo (nI ft) fha fva fla (nI sp) (nI tc) tha tva wa sa ca va tt ld pt pw (nI rc) ra wn, hq_ai ya (G 0) 100 ty, hq_ai la (G 0) 20 ln, hq_ai ta (G 0) 2000 (upd (hq_cpY tx ty rg q) ((100 * rg) + q) (ty q)), hq_ai fha (G 0) 12 fh, hq_ai fva (G 0) 12 fv, hq_ai fla (G 0) 12 fl] ++ Z) H := hP
          have hD : va_D A ([hq_o8 h (nI n) kd ru ya (nI sz) ta la (nI rg) (nI so) (hq_z bg) (nI nc) lfa rta lb wo (nI ft) fha fva fla (nI sp) (nI tc) tha tva wa sa ca va tt ld pt pw (nI rc) ra wn, hq_ai ya (G 0) 100 ty, hq_ai la (G 0) 20 ln, hq_ai ta (G 0) 2000 (upd (hq_cpY tx ty rg q) ((100 * rg) + q) (ty q)), hq_ai fha (G 0) 12 fh, hq_ai fva (G 0) 12 fv, hq_ai fla (G 0) 12 fl] ++ Z) := hD
          refine lv_iinc (nL := 2) (k := 1) (v := nI (q + 1)) (lv' := [(1, .int (nI (q + 1))), (0, .ref h)]) hx hb d_M_line_41 hl rfl (nI_add q 1) (by decide) rfl (fun ls hl => ?_)
          refine lv_goto (tgt := 13) hx hb d_M_line_44 rfl ?_
          have e9_0 : (hq_cpY tx ty rg (q + 1)) = (upd (hq_cpY tx ty rg q) ((100 * rg) + q) (ty q)) := hq_cpY_s
          have hP : va_P D hq_cl ([hq_o8 h (nI n) kd ru ya (nI sz) ta la (nI rg) (nI so) (hq_z bg) (nI nc) lfa rta lb wo (nI ft) fha fva fla (nI sp) (nI tc) tha tva wa sa ca va tt ld pt pw (nI rc) ra wn, hq_ai ya (G 0) 100 ty, hq_ai la (G 0) 20 ln, hq_ai ta (G 0) 2000 (hq_cpY tx ty rg (q + 1)), hq_ai fha (G 0) 12 fh, hq_ai fva (G 0) 12 fv, hq_ai fla (G 0) 12 fl] ++ Z) H := by rw [e9_0]; exact hP
          have hD : va_D A ([hq_o8 h (nI n) kd ru ya (nI sz) ta la (nI rg) (nI so) (hq_z bg) (nI nc) lfa rta lb wo (nI ft) fha fva fla (nI sp) (nI tc) tha tva wa sa ca va tt ld pt pw (nI rc) ra wn, hq_ai ya (G 0) 100 ty, hq_ai la (G 0) 20 ln, hq_ai ta (G 0) 2000 (hq_cpY tx ty rg (q + 1)), hq_ai fha (G 0) 12 fh, hq_ai fva (G 0) 12 fv, hq_ai fla (G 0) 12 fl] ++ Z) := by rw [e9_0]; exact hD
          exact ih _ (by omega) (q + 1) ls H locs rfl (by first | assumption | omega) (lv_sub hl [1, 0] rfl) hP hD hS
    have e9_0 : (hq_cpY tx ty rg 0) = tx := hq_cpY_0 tx ty rg
    have hP : va_P D hq_cl ([hq_o8 h (nI n) kd ru ya (nI sz) ta la (nI rg) (nI so) (hq_z bg) (nI nc) lfa rta lb wo (nI ft) fha fva fla (nI sp) (nI tc) tha tva wa sa ca va tt ld pt pw (nI rc) ra wn, hq_ai ya (G 0) 100 ty, hq_ai la (G 0) 20 ln, hq_ai ta (G 0) 2000 (hq_cpY tx ty rg 0), hq_ai fha (G 0) 12 fh, hq_ai fva (G 0) 12 fv, hq_ai fla (G 0) 12 fl] ++ Z) H := by rw [e9_0]; exact hP
    have hD : va_D A ([hq_o8 h (nI n) kd ru ya (nI sz) ta la (nI rg) (nI so) (hq_z bg) (nI nc) lfa rta lb wo (nI ft) fha fva fla (nI sp) (nI tc) tha tva wa sa ca va tt ld pt pw (nI rc) ra wn, hq_ai ya (G 0) 100 ty, hq_ai la (G 0) 20 ln, hq_ai ta (G 0) 2000 (hq_cpY tx ty rg 0), hq_ai fha (G 0) 12 fh, hq_ai fva (G 0) 12 fv, hq_ai fla (G 0) 12 fl] ++ Z) := by rw [e9_0]; exact hD
    exact cut13 _ 0 ls H locs rfl (by first | assumption | omega) (lv_sub hl [1, 0] rfl) hP hD hS
  · -- 5 not taken
    have c5 : ¬ rg < 4 := fun h => c5 ((nI_ltI (a := rg) (b := 4) (by omega) (by omega)).mpr h)
    exact absurd (by omega) c5
set_option maxHeartbeats 4000000 in
set_option maxRecDepth 100000 in
theorem c_M_line_good (l : Launch) (D : va_G) (G : Nat → ClassId) (A : Nat → Prop) (Z : va_W) (h : Nat) (n : Nat) (kd : Int32) (ru : Int32) (ya : Nat) (sz : Nat) (ta : Nat) (la : Nat) (rg : Nat) (so : Nat) (bg : Bool) (nc : Nat) (lfa : Nat) (rta : Nat) (lb : Int32) (wo : Int32) (ft : Nat) (fha : Nat) (fva : Nat) (fla : Nat) (sp : Nat) (tc : Nat) (tha : Nat) (tva : Nat) (wa : Nat) (sa : Nat) (ca : Nat) (va : Nat) (tt : Int64) (ld : Int32) (pt : Int64) (pw : Int64) (rc : Nat) (ra : Nat) (wn : Int32) (ty : Nat → Int32) (ln : Nat → Int32) (tx : Nat → Int32) (fh : Nat → Int32) (fv : Nat → Int32) (fl : Nat → Int32) (lab9 : Bool) (lb9 : Int32) (im9 : Int32) (L9 : List (Int32 × Int32 × Int32)) (hrg : rg < 4) (hsz : sz ≤ 100) (ht : ∀ q, q < sz → hq_ch (ty q)) (hpar : hq_par ty sz = some (lab9, lb9, im9, L9)) : hq_MI l D G A y_M_line b_M_line 2 .int 6 0 0 [.ref h] ([hq_o8 h (nI n) kd ru ya (nI sz) ta la (nI rg) (nI so) (hq_z bg) (nI nc) lfa rta lb wo (nI ft) fha fva fla (nI sp) (nI tc) tha tva wa sa ca va tt ld pt pw (nI rc) ra wn, hq_ai ya (G 0) 100 ty, hq_ai la (G 0) 20 ln, hq_ai ta (G 0) 2000 tx, hq_ai fha (G 0) 12 fh, hq_ai fva (G 0) 12 fv, hq_ai fla (G 0) 12 fl] ++ Z) (fun r (u : (Int32 × Int32 × Nat) × (Nat → Int32) × (Nat → Int32) × (Nat → Int32) × Nat) => r = nI L9.length) (fun (u : (Int32 × Int32 × Nat) × (Nat → Int32) × (Nat → Int32) × (Nat → Int32) × Nat) => [hq_o8 h (nI n) kd ru ya (nI 0) ta la (nI (rg + 1)) (nI so) (hq_z true) (nI nc) lfa rta u.1.1 u.1.2.1 (nI u.2.2.2.2) fha fva fla (nI u.1.2.2) (nI tc) tha tva wa sa ca va tt ld pt pw (nI rc) ra wn, hq_ai ya (G 0) 100 ty, hq_ai la (G 0) 20 (upd ln rg (nI sz)), hq_ai ta (G 0) 2000 (hq_cpY tx ty rg sz), hq_ai fha (G 0) 12 u.2.1, hq_ai fva (G 0) 12 u.2.2.1, hq_ai fla (G 0) 12 u.2.2.2.1] ++ Z) := by
  refine hq_bI (by decide) (Nat.le_of_ble_eq_true rfl) (fun _ _ _ => rfl) ?_
  intro p e s m args below meth c Q hx hb hml hts hown hA hK hN hret ls H locs hl hP hD hS
  have hown : s.vm.findClass "HashedLearnerModel" = some m.cls := hown
  have hl : lv_has ls 2 [(0, .ref h)] := hl
  refine lv_aload_n hx hb d_M_line_0 rfl (lv_at hl 0 rfl) ?_
  refine va_get (D := D) (ci := 8) (v := .int (nI rg)) (C := R_M) (T := F_M) (N := 34) hx hb hts uw_M hown hK hP 0 rfl rfl 7 (by decide) (hts _ fl_M_222) (fun _ h9 => h9) rfl d_M_line_1 ?_
  refine lv_iconst (v := 4) hx hb d_M_line_4 (by decide) ?_
  refine lv_icmp_lt (tgt := 11) hx hb d_M_line_5 rfl (fun c5 => ?_) (fun c5 => ?_)
  · -- 5 taken
    have c5 : rg < 4 := (nI_ltI (a := rg) (b := 4) (by omega) (by omega)).mp c5
    refine lv_iconst (v := nI 0) hx hb d_M_line_11 (by decide) ?_
    refine lv_istore_n (nL := 2) (lv' := [(1, .int (nI 0)), (0, .ref h)]) hx hb d_M_line_12 rfl hl (by decide) rfl (fun ls hl => ?_)
    have cut13 : ∀ (kz : Nat) (q : Nat) (ls : Array Slot) (H : Heap) (locs : List Loc), sz - q = kz → (q ≤ sz) → lv_has ls 2 [(0, .ref h), (1, .int (nI q))] → va_P D hq_cl ([hq_o8 h (nI n) kd ru ya (nI sz) ta la (nI rg) (nI so) (hq_z bg) (nI nc) lfa rta lb wo (nI ft) fha fva fla (nI sp) (nI tc) tha tva wa sa ca va tt ld pt pw (nI rc) ra wn, hq_ai ya (G 0) 100 ty, hq_ai la (G 0) 20 ln, hq_ai ta (G 0) 2000 (hq_cpY tx ty rg q), hq_ai fha (G 0) 12 fh, hq_ai fva (G 0) 12 fv, hq_ai fla (G 0) 12 fl] ++ Z) H → va_D A ([hq_o8 h (nI n) kd ru ya (nI sz) ta la (nI rg) (nI so) (hq_z bg) (nI nc) lfa rta lb wo (nI ft) fha fva fla (nI sp) (nI tc) tha tva wa sa ca va tt ld pt pw (nI rc) ra wn, hq_ai ya (G 0) 100 ty, hq_ai la (G 0) 20 ln, hq_ai ta (G 0) 2000 (hq_cpY tx ty rg q), hq_ai fha (G 0) 12 fh, hq_ai fva (G 0) 12 fv, hq_ai fla (G 0) 12 fl] ++ Z) → va_S A s.heap H locs → W p l e (hq_rm 6 0 0) s m args below meth c H locs 0 0 Q (F0 m 13 ls []) := by
      intro kz
      induction kz using Nat.strongRecOn with
      | ind kz ih =>
        intro q ls H locs hkz hq hl hP hD hS
        subst hkz
        refine lv_iload_n hx hb d_M_line_13 rfl (lv_at hl 1 rfl) ?_
        refine lv_aload_n hx hb d_M_line_14 rfl (lv_at hl 0 rfl) ?_
        refine va_get (D := D) (ci := 8) (v := .int (nI sz)) (C := R_M) (T := F_M) (N := 34) hx hb hts uw_M hown hK hP 0 rfl rfl 4 (by decide) (hts _ fl_M_71) (fun _ h9 => h9) rfl d_M_line_15 ?_
        refine lv_icmp_ge (tgt := 47) hx hb d_M_line_18 rfl (fun c18 => ?_) (fun c18 => ?_)
        · -- 18 taken
          have c18 : sz ≤ q := (nI_leI (a := sz) (b := q) (by omega) (by omega)).mp c18
          have hq9 : q = sz := by omega
          rw [hq9] at hP hD
          have hP : va_P D hq_cl ([hq_o8 h (nI n) kd ru ya (nI sz) ta la (nI rg) (nI so) (hq_z bg) (nI nc) lfa rta lb wo (nI ft) fha fva fla (nI sp) (nI tc) tha tva wa sa ca va tt ld pt pw (nI rc) ra wn, hq_ai ya (G 0) 100 ty, hq_ai la (G 0) 20 ln, hq_ai ta (G 0) 2000 (hq_cpY tx ty rg sz), hq_ai fha (G 0) 12 fh, hq_ai fva (G 0) 12 fv, hq_ai fla (G 0) 12 fl] ++ Z) H := hP
          have hD : va_D A ([hq_o8 h (nI n) kd ru ya (nI sz) ta la (nI rg) (nI so) (hq_z bg) (nI nc) lfa rta lb wo (nI ft) fha fva fla (nI sp) (nI tc) tha tva wa sa ca va tt ld pt pw (nI rc) ra wn, hq_ai ya (G 0) 100 ty, hq_ai la (G 0) 20 ln, hq_ai ta (G 0) 2000 (hq_cpY tx ty rg sz), hq_ai fha (G 0) 12 fh, hq_ai fva (G 0) 12 fv, hq_ai fla (G 0) 12 fl] ++ Z) := hD
          refine lv_aload_n hx hb d_M_line_47 rfl (lv_at hl 0 rfl) ?_
          refine va_get (D := D) (ci := 8) (v := .ref la) (C := R_M) (T := F_M) (N := 34) hx hb hts uw_M hown hK hP 0 rfl rfl 6 (by decide) (hts _ fl_M_16) (fun _ h9 => h9) rfl d_M_line_48 ?_
          refine lv_aload_n hx hb d_M_line_51 rfl (lv_at hl 0 rfl) ?_
          refine va_get (D := D) (ci := 8) (v := .int (nI rg)) (C := R_M) (T := F_M) (N := 34) hx hb hts uw_M hown hK hP 0 rfl rfl 7 (by decide) (hts _ fl_M_222) (fun _ h9 => h9) rfl d_M_line_52 ?_
          refine lv_aload_n hx hb d_M_line_55 rfl (lv_at hl 0 rfl) ?_
          refine va_get (D := D) (ci := 8) (v := .int (nI sz)) (C := R_M) (T := F_M) (N := 34) hx hb hts uw_M hown hK hP 0 rfl rfl 4 (by decide) (hts _ fl_M_71) (fun _ h9 => h9) rfl d_M_line_56 ?_
          refine hq_iast (j := rg) hx hb hK hP hD hS 2 rfl (by omega) (by omega) d_M_line_59 (fun H locs hP hD hS => ?_)
          have hP : va_P D hq_cl ([hq_o8 h (nI n) kd ru ya (nI sz) ta la (nI rg) (nI so) (hq_z bg) (nI nc) lfa rta lb wo (nI ft) fha fva fla (nI sp) (nI tc) tha tva wa sa ca va tt ld pt pw (nI rc) ra wn, hq_ai ya (G 0) 100 ty, hq_ai la (G 0) 20 (upd ln rg (nI sz)), hq_ai ta (G 0) 2000 (hq_cpY tx ty rg sz), hq_ai fha (G 0) 12 fh, hq_ai fva (G 0) 12 fv, hq_ai fla (G 0) 12 fl] ++ Z) H := hP
          have hD : va_D A ([hq_o8 h (nI n) kd ru ya (nI sz) ta la (nI rg) (nI so) (hq_z bg) (nI nc) lfa rta lb wo (nI ft) fha fva fla (nI sp) (nI tc) tha tva wa sa ca va tt ld pt pw (nI rc) ra wn, hq_ai ya (G 0) 100 ty, hq_ai la (G 0) 20 (upd ln rg (nI sz)), hq_ai ta (G 0) 2000 (hq_cpY tx ty rg sz), hq_ai fha (G 0) 12 fh, hq_ai fva (G 0) 12 fv, hq_ai fla (G 0) 12 fl] ++ Z) := hD
          refine lv_aload_n hx hb d_M_line_60 rfl (lv_at hl 0 rfl) ?_
          refine lv_iconst (v := nI 0) hx hb d_M_line_61 (by decide) ?_
          refine va_put (D := D) (ci := 8) (v := .int (nI 0)) (ty := .int) (C := R_M) (T := F_M) (N := 34) hx hb hts uw_M t_M t_M_ok n_M hown hK hP hD hS 0 rfl rfl 4 (by decide) (hts _ fl_M_71) (fun _ h9 => h9) rfl (by decide +kernel) (rfl) (rfl) (Nat.le_of_ble_eq_true rfl) d_M_line_62 (fun H locs hP hD hS => ?_)
          have hP : va_P D hq_cl ([hq_o8 h (nI n) kd ru ya (nI 0) ta la (nI rg) (nI so) (hq_z bg) (nI nc) lfa rta lb wo (nI ft) fha fva fla (nI sp) (nI tc) tha tva wa sa ca va tt ld pt pw (nI rc) ra wn, hq_ai ya (G 0) 100 ty, hq_ai la (G 0) 20 (upd ln rg (nI sz)), hq_ai ta (G 0) 2000 (hq_cpY tx ty rg sz), hq_ai fha (G 0) 12 fh, hq_ai fva (G 0) 12 fv, hq_ai fla (G 0) 12 fl] ++ Z) H := hP
          have hD : va_D A ([hq_o8 h (nI n) kd ru ya (nI 0) ta la (nI rg) (nI so) (hq_z bg) (nI nc) lfa rta lb wo (nI ft) fha fva fla (nI sp) (nI tc) tha tva wa sa ca va tt ld pt pw (nI rc) ra wn, hq_ai ya (G 0) 100 ty, hq_ai la (G 0) 20 (upd ln rg (nI sz)), hq_ai ta (G 0) 2000 (hq_cpY tx ty rg sz), hq_ai fha (G 0) 12 fh, hq_ai fva (G 0) 12 fv, hq_ai fla (G 0) 12 fl] ++ Z) := hD
          refine lv_aload_n hx hb d_M_line_65 rfl (lv_at hl 0 rfl) ?_
          refine lv_aload_n hx hb d_M_line_66 rfl (lv_at hl 0 rfl) ?_
          refine va_get (D := D) (ci := 8) (v := .int (nI rg)) (C := R_M) (T := F_M) (N := 34) hx hb hts uw_M hown hK hP 0 rfl rfl 7 (by decide) (hts _ fl_M_222) (fun _ h9 => h9) rfl d_M_line_67 ?_
          have hPc : va_P D hq_cl ([hq_o8 h (nI n) kd ru ya (nI 0) ta la (nI rg) (nI so) (hq_z bg) (nI nc) lfa rta lb wo (nI ft) fha fva fla (nI sp) (nI tc) tha tva wa sa ca va tt ld pt pw (nI rc) ra wn, hq_ai la (G 0) 20 (upd ln rg (nI sz)), hq_ai ta (G 0) 2000 (hq_cpY tx ty rg sz), hq_ai fha (G 0) 12 fh, hq_ai fva (G 0) 12 fv, hq_ai fla (G 0) 12 fl] ++ ([hq_ai ya (G 0) 100 ty] ++ Z)) H := va_P.part (cx := [hq_o8 h (nI n) kd ru ya (nI 0) ta la (nI rg) (nI so) (hq_z bg) (nI nc) lfa rta lb wo (nI ft) fha fva fla (nI sp) (nI tc) tha tva wa sa ca va tt ld pt pw (nI rc) ra wn, hq_ai la (G 0) 20 (upd ln rg (nI sz)), hq_ai ta (G 0) 2000 (hq_cpY tx ty rg sz), hq_ai fha (G 0) 12 fh, hq_ai fva (G 0) 12 fv, hq_ai fla (G 0) 12 fl, hq_ai ya (G 0) 100 ty]) hP [0, 2, 3, 4, 5, 6, 1] rfl
          have hDc : va_D A ([hq_o8 h (nI n) kd ru ya (nI 0) ta la (nI rg) (nI so) (hq_z bg) (nI nc) lfa rta lb wo (nI ft) fha fva fla (nI sp) (nI tc) tha tva wa sa ca va tt ld pt pw (nI rc) ra wn, hq_ai la (G 0) 20 (upd ln rg (nI sz)), hq_ai ta (G 0) 2000 (hq_cpY tx ty rg sz), hq_ai fha (G 0) 12 fh, hq_ai fva (G 0) 12 fv, hq_ai fla (G 0) 12 fl] ++ ([hq_ai ya (G 0) 100 ty] ++ Z)) := va_D.part (cx := [hq_o8 h (nI n) kd ru ya (nI 0) ta la (nI rg) (nI so) (hq_z bg) (nI nc) lfa rta lb wo (nI ft) fha fva fla (nI sp) (nI tc) tha tva wa sa ca va tt ld pt pw (nI rc) ra wn, hq_ai la (G 0) 20 (upd ln rg (nI sz)), hq_ai ta (G 0) 2000 (hq_cpY tx ty rg sz), hq_ai fha (G 0) 12 fh, hq_ai fva (G 0) 12 fv, hq_ai fla (G 0) 12 fl, hq_ai ya (G 0) 100 ty]) hD [0, 2, 3, 4, 5, 6, 1] (by decide) rfl
          refine hq_i (hq_rV (As := [.int (nI rg)]) (rest := []) hx hb hml hown hts (c_M_parse l D G A ([hq_ai ya (G 0) 100 ty] ++ Z) h n kd ru ya 0 ta la rg so bg nc lfa rta lb wo ft fha fva fla sp tc tha tva wa sa ca va tt ld pt pw rc ra wn (hq_cpY tx ty rg sz) (upd ln rg (nI sz)) fh fv fl rg sz ty (by omega) (pk_us) (by first | assumption | omega) (hq_cpY_at) (by first | assumption | omega)) yy_M_parse lk_M_164 hA hK hN hS hPc hDc 0 8 rfl rfl rfl hl.1 rfl (Nat.le_of_ble_eq_true rfl) d_M_line_70 ⟨by decide, by decide⟩ ⟨by decide, by decide⟩) hS (fun r70 u70 H locs w70 hP hD hS => ?_)
          have hP : va_P D hq_cl ([hq_o8 h (nI n) kd ru ya (nI 0) ta la (nI rg) (nI so) (hq_z bg) (nI nc) lfa rta u70.1.1 u70.1.2.1 (nI u70.2.2.2.2) fha fva fla (nI u70.1.2.2) (nI tc) tha tva wa sa ca va tt ld pt pw (nI rc) ra wn, hq_ai la (G 0) 20 (upd ln rg (nI sz)), hq_ai ta (G 0) 2000 (hq_cpY tx ty rg sz), hq_ai fha (G 0) 12 u70.2.1, hq_ai fva (G 0) 12 u70.2.2.1, hq_ai fla (G 0) 12 u70.2.2.2.1, hq_ai ya (G 0) 100 ty] ++ Z) H := hP
          have hD : va_D A ([hq_o8 h (nI n) kd ru ya (nI 0) ta la (nI rg) (nI so) (hq_z bg) (nI nc) lfa rta u70.1.1 u70.1.2.1 (nI u70.2.2.2.2) fha fva fla (nI u70.1.2.2) (nI tc) tha tva wa sa ca va tt ld pt pw (nI rc) ra wn, hq_ai la (G 0) 20 (upd ln rg (nI sz)), hq_ai ta (G 0) 2000 (hq_cpY tx ty rg sz), hq_ai fha (G 0) 12 u70.2.1, hq_ai fva (G 0) 12 u70.2.2.1, hq_ai fla (G 0) 12 u70.2.2.2.1, hq_ai ya (G 0) 100 ty] ++ Z) := hD
          obtain ⟨⟨lb2, wo2, sp2⟩, fh2, fv2, fl2, k2⟩ := u70
          obtain ⟨w70, hk2, hR2⟩ := w70
          obtain ⟨e1, e2, hr2⟩ := hR2 _ hpar
          rw [hpar] at w70
          have w70 : r70 = 1 := w70
          subst w70
          have hP : va_P D hq_cl ([hq_o8 h (nI n) kd ru ya (nI 0) ta la (nI rg) (nI so) (hq_z bg) (nI nc) lfa rta lb2 wo2 (nI k2) fha fva fla (nI sp2) (nI tc) tha tva wa sa ca va tt ld pt pw (nI rc) ra wn, hq_ai la (G 0) 20 (upd ln rg (nI sz)), hq_ai ta (G 0) 2000 (hq_cpY tx ty rg sz), hq_ai fha (G 0) 12 fh2, hq_ai fva (G 0) 12 fv2, hq_ai fla (G 0) 12 fl2, hq_ai ya (G 0) 100 ty] ++ Z) H := hP
          have hD : va_D A ([hq_o8 h (nI n) kd ru ya (nI 0) ta la (nI rg) (nI so) (hq_z bg) (nI nc) lfa rta lb2 wo2 (nI k2) fha fva fla (nI sp2) (nI tc) tha tva wa sa ca va tt ld pt pw (nI rc) ra wn, hq_ai la (G 0) 20 (upd ln rg (nI sz)), hq_ai ta (G 0) 2000 (hq_cpY tx ty rg sz), hq_ai fha (G 0) 12 fh2, hq_ai fva (G 0) 12 fv2, hq_ai fla (G 0) 12 fl2, hq_ai ya (G 0) 100 ty] ++ Z) := hD
          refine lv_if_ne (tgt := 88) hx hb d_M_line_73 rfl (fun c73 => ?_) (fun c73 => ?_)
          · skip
            refine lv_aload_n hx hb d_M_line_88 rfl (lv_at hl 0 rfl) ?_
            refine lv_dup hx hb d_M_line_89 rfl ?_
            refine va_get (D := D) (ci := 8) (v := .int (nI rg)) (C := R_M) (T := F_M) (N := 34) hx hb hts uw_M hown hK hP 0 rfl rfl 7 (by decide) (hts _ fl_M_222) (fun _ h9 => h9) rfl d_M_line_90 ?_
            refine lv_iconst (v := 1) hx hb d_M_line_93 (by decide) ?_
            refine lv_iadd hx hb d_M_line_94 ?_
            refine hq_topi (x' := nI (rg + 1)) (nI_add rg 1) ?_
            refine va_put (D := D) (ci := 8) (v := .int (nI (rg + 1))) (ty := .int) (C := R_M) (T := F_M) (N := 34) hx hb hts uw_M t_M t_M_ok n_M hown hK hP hD hS 0 rfl rfl 7 (by decide) (hts _ fl_M_222) (fun _ h9 => h9) rfl (by decide +kernel) (rfl) (rfl) (Nat.le_of_ble_eq_true rfl) d_M_line_95 (fun H locs hP hD hS => ?_)
            have hP : va_P D hq_cl ([hq_o8 h (nI n) kd ru ya (nI 0) ta la (nI (rg + 1)) (nI so) (hq_z bg) (nI nc) lfa rta lb2 wo2 (nI k2) fha fva fla (nI sp2) (nI tc) tha tva wa sa ca va tt ld pt pw (nI rc) ra wn, hq_ai la (G 0) 20 (upd ln rg (nI sz)), hq_ai ta (G 0) 2000 (hq_cpY tx ty rg sz), hq_ai fha (G 0) 12 fh2, hq_ai fva (G 0) 12 fv2, hq_ai fla (G 0) 12 fl2, hq_ai ya (G 0) 100 ty] ++ Z) H := hP
            have hD : va_D A ([hq_o8 h (nI n) kd ru ya (nI 0) ta la (nI (rg + 1)) (nI so) (hq_z bg) (nI nc) lfa rta lb2 wo2 (nI k2) fha fva fla (nI sp2) (nI tc) tha tva wa sa ca va tt ld pt pw (nI rc) ra wn, hq_ai la (G 0) 20 (upd ln rg (nI sz)), hq_ai ta (G 0) 2000 (hq_cpY tx ty rg sz), hq_ai fha (G 0) 12 fh2, hq_ai fva (G 0) 12 fv2, hq_ai fla (G 0) 12 fl2, hq_ai ya (G 0) 100 ty] ++ Z) := hD
            refine lv_aload_n hx hb d_M_line_98 rfl (lv_at hl 0 rfl) ?_
            refine lv_iconst (v := hq_z true) hx hb d_M_line_99 (by decide) ?_
            refine va_put (D := D) (ci := 8) (v := .int (hq_z true)) (ty := .boolean) (C := R_M) (T := F_M) (N := 34) hx hb hts uw_M t_M t_M_ok n_M hown hK hP hD hS 0 rfl rfl 9 (by decide) (hts _ fl_M_81) (fun _ h9 => h9) rfl (by decide +kernel) (hq_znar _) (hq_zfit _) (Nat.le_of_ble_eq_true rfl) d_M_line_100 (fun H locs hP hD hS => ?_)
            have hP : va_P D hq_cl ([hq_o8 h (nI n) kd ru ya (nI 0) ta la (nI (rg + 1)) (nI so) (hq_z true) (nI nc) lfa rta lb2 wo2 (nI k2) fha fva fla (nI sp2) (nI tc) tha tva wa sa ca va tt ld pt pw (nI rc) ra wn, hq_ai la (G 0) 20 (upd ln rg (nI sz)), hq_ai ta (G 0) 2000 (hq_cpY tx ty rg sz), hq_ai fha (G 0) 12 fh2, hq_ai fva (G 0) 12 fv2, hq_ai fla (G 0) 12 fl2, hq_ai ya (G 0) 100 ty] ++ Z) H := hP
            have hD : va_D A ([hq_o8 h (nI n) kd ru ya (nI 0) ta la (nI (rg + 1)) (nI so) (hq_z true) (nI nc) lfa rta lb2 wo2 (nI k2) fha fva fla (nI sp2) (nI tc) tha tva wa sa ca va tt ld pt pw (nI rc) ra wn, hq_ai la (G 0) 20 (upd ln rg (nI sz)), hq_ai ta (G 0) 2000 (hq_cpY tx ty rg sz), hq_ai fha (G 0) 12 fh2, hq_ai fva (G 0) 12 fv2, hq_ai fla (G 0) 12 fl2, hq_ai ya (G 0) 100 ty] ++ Z) := hD
            refine lv_aload_n hx hb d_M_line_103 rfl (lv_at hl 0 rfl) ?_
            refine va_get (D := D) (ci := 8) (v := .int (nI k2)) (C := R_M) (T := F_M) (N := 34) hx hb hts uw_M hown hK hP 0 rfl rfl 15 (by decide) (hts _ fl_M_119) (fun _ h9 => h9) rfl d_M_line_104 ?_
            have hP := va_P.part (cx := [hq_o8 h (nI n) kd ru ya (nI 0) ta la (nI (rg + 1)) (nI so) (hq_z true) (nI nc) lfa rta lb2 wo2 (nI k2) fha fva fla (nI sp2) (nI tc) tha tva wa sa ca va tt ld pt pw (nI rc) ra wn, hq_ai ya (G 0) 100 ty, hq_ai la (G 0) 20 (upd ln rg (nI sz)), hq_ai ta (G 0) 2000 (hq_cpY tx ty rg sz), hq_ai fha (G 0) 12 fh2, hq_ai fva (G 0) 12 fv2, hq_ai fla (G 0) 12 fl2]) hP [0, 6, 1, 2, 3, 4, 5] rfl
            have hD := va_D.part (cx := [hq_o8 h (nI n) kd ru ya (nI 0) ta la (nI (rg + 1)) (nI so) (hq_z true) (nI nc) lfa rta lb2 wo2 (nI k2) fha fva fla (nI sp2) (nI tc) tha tva wa sa ca va tt ld pt pw (nI rc) ra wn, hq_ai ya (G 0) 100 ty, hq_ai la (G 0) 20 (upd ln rg (nI sz)), hq_ai ta (G 0) 2000 (hq_cpY tx ty rg sz), hq_ai fha (G 0) 12 fh2, hq_ai fva (G 0) 12 fv2, hq_ai fla (G 0) 12 fl2]) hD [0, 6, 1, 2, 3, 4, 5] (by decide) rfl
            exact hret (nI k2) ((lb2, wo2, sp2), fh2, fv2, fl2, k2) H locs 107 ls d_M_line_107 (congrArg nI hr2.1.symm) hP hD hS
          · exact absurd c73 (by decide)
        · -- 18 not taken
          have c18 : ¬ sz ≤ q := fun h => c18 ((nI_leI (a := sz) (b := q) (by omega) (by omega)).mpr h)
          refine lv_aload_n hx hb d_M_line_21 rfl (lv_at hl 0 rfl) ?_
          refine va_get (D := D) (ci := 8) (v := .ref ta) (C := R_M) (T := F_M) (N := 34) hx hb hts uw_M hown hK hP 0 rfl rfl 5 (by decide) (hts _ fl_M_13) (fun _ h9 => h9) rfl d_M_line_22 ?_
          refine lv_bipush (v := nI 100) hx hb d_M_line_25 (by decide) ?_
          refine lv_aload_n hx hb d_M_line_27 rfl (lv_at hl 0 rfl) ?_
          refine va_get (D := D) (ci := 8) (v := .int (nI rg)) (C := R_M) (T := F_M) (N := 34) hx hb hts uw_M hown hK hP 0 rfl rfl 7 (by decide) (hts _ fl_M_222) (fun _ h9 => h9) rfl d_M_line_28 ?_
          refine lv_imul hx hb d_M_line_31 ?_
          refine hq_topi (x' := nI (100 * rg)) (pk_mul 100 rg) ?_
          refine lv_iload_n hx hb d_M_line_32 rfl (lv_at hl 1 rfl) ?_
          refine lv_iadd hx hb d_M_line_33 ?_
          refine hq_topi (x' := nI ((100 * rg) + q)) (nI_add (100 * rg) q) ?_
          refine lv_aload_n hx hb d_M_line_34 rfl (lv_at hl 0 rfl) ?_
          refine va_get (D := D) (ci := 8) (v := .ref ya) (C := R_M) (T := F_M) (N := 34) hx hb hts uw_M hown hK hP 0 rfl rfl 3 (by decide) (hts _ fl_M_7) (fun _ h9 => h9) rfl d_M_line_35 ?_
          refine lv_iload_n hx hb d_M_line_38 rfl (lv_at hl 1 rfl) ?_
          refine hq_iald (j := q) hx hb hK hP 1 rfl (by omega) (by omega) d_M_line_39 ?_
          refine hq_iast (j := (100 * rg) + q) hx hb hK hP hD hS 3 rfl (by omega) (by omega) d_M_line_40 (fun H locs hP hD hS => ?_)
          have hP : va_P D hq_cl ([hq_o8 h (nI n) kd ru ya (nI sz) ta la (nI rg) (nI so) (hq_z bg) (nI nc) lfa rta lb wo (nI ft) fha fva fla (nI sp) (nI tc) tha tva wa sa ca va tt ld pt pw (nI rc) ra wn, hq_ai ya (G 0) 100 ty, hq_ai la (G 0) 20 ln, hq_ai ta (G 0) 2000 (upd (hq_cpY tx ty rg q) ((100 * rg) + q) (ty q)), hq_ai fha (G 0) 12 fh, hq_ai fva (G 0) 12 fv, hq_ai fla (G 0) 12 fl] ++ Z) H := hP
          have hD : va_D A ([hq_o8 h (nI n) kd ru ya (nI sz) ta la (nI rg) (nI so) (hq_z bg) (nI nc) lfa rta lb wo (nI ft) fha fva fla (nI sp) (nI tc) tha tva wa sa ca va tt ld pt pw (nI rc) ra wn, hq_ai ya (G 0) 100 ty, hq_ai la (G 0) 20 ln, hq_ai ta (G 0) 2000 (upd (hq_cpY tx ty rg q) ((100 * rg) + q) (ty q)), hq_ai fha (G 0) 12 fh, hq_ai fva (G 0) 12 fv, hq_ai fla (G 0) 12 fl] ++ Z) := hD
          refine lv_iinc (nL := 2) (k := 1) (v := nI (q + 1)) (lv' := [(1, .int (nI (q + 1))), (0, .ref h)]) hx hb d_M_line_41 hl rfl (nI_add q 1) (by decide) rfl (fun ls hl => ?_)
          refine lv_goto (tgt := 13) hx hb d_M_line_44 rfl ?_
          have e9_0 : (hq_cpY tx ty rg (q + 1)) = (upd (hq_cpY tx ty rg q) ((100 * rg) + q) (ty q)) := hq_cpY_s
          have hP : va_P D hq_cl ([hq_o8 h (nI n) kd ru ya (nI sz) ta la (nI rg) (nI so) (hq_z bg) (nI nc) lfa rta lb wo (nI ft) fha fva fla (nI sp) (nI tc) tha tva wa sa ca va tt ld pt pw (nI rc) ra wn, hq_ai ya (G 0) 100 ty, hq_ai la (G 0) 20 ln, hq_ai ta (G 0) 2000 (hq_cpY tx ty rg (q + 1)), hq_ai fha (G 0) 12 fh, hq_ai fva (G 0) 12 fv, hq_ai fla (G 0) 12 fl] ++ Z) H := by rw [e9_0]; exact hP
          have hD : va_D A ([hq_o8 h (nI n) kd ru ya (nI sz) ta la (nI rg) (nI so) (hq_z bg) (nI nc) lfa rta lb wo (nI ft) fha fva fla (nI sp) (nI tc) tha tva wa sa ca va tt ld pt pw (nI rc) ra wn, hq_ai ya (G 0) 100 ty, hq_ai la (G 0) 20 ln, hq_ai ta (G 0) 2000 (hq_cpY tx ty rg (q + 1)), hq_ai fha (G 0) 12 fh, hq_ai fva (G 0) 12 fv, hq_ai fla (G 0) 12 fl] ++ Z) := by rw [e9_0]; exact hD
          exact ih _ (by omega) (q + 1) ls H locs rfl (by first | assumption | omega) (lv_sub hl [1, 0] rfl) hP hD hS
    have e9_0 : (hq_cpY tx ty rg 0) = tx := hq_cpY_0 tx ty rg
    have hP : va_P D hq_cl ([hq_o8 h (nI n) kd ru ya (nI sz) ta la (nI rg) (nI so) (hq_z bg) (nI nc) lfa rta lb wo (nI ft) fha fva fla (nI sp) (nI tc) tha tva wa sa ca va tt ld pt pw (nI rc) ra wn, hq_ai ya (G 0) 100 ty, hq_ai la (G 0) 20 ln, hq_ai ta (G 0) 2000 (hq_cpY tx ty rg 0), hq_ai fha (G 0) 12 fh, hq_ai fva (G 0) 12 fv, hq_ai fla (G 0) 12 fl] ++ Z) H := by rw [e9_0]; exact hP
    have hD : va_D A ([hq_o8 h (nI n) kd ru ya (nI sz) ta la (nI rg) (nI so) (hq_z bg) (nI nc) lfa rta lb wo (nI ft) fha fva fla (nI sp) (nI tc) tha tva wa sa ca va tt ld pt pw (nI rc) ra wn, hq_ai ya (G 0) 100 ty, hq_ai la (G 0) 20 ln, hq_ai ta (G 0) 2000 (hq_cpY tx ty rg 0), hq_ai fha (G 0) 12 fh, hq_ai fva (G 0) 12 fv, hq_ai fla (G 0) 12 fl] ++ Z) := by rw [e9_0]; exact hD
    exact cut13 _ 0 ls H locs rfl (by first | assumption | omega) (lv_sub hl [1, 0] rfl) hP hD hS
  · -- 5 not taken
    have c5 : ¬ rg < 4 := fun h => c5 ((nI_ltI (a := rg) (b := 4) (by omega) (by omega)).mpr h)
    exact absurd (by omega) c5
