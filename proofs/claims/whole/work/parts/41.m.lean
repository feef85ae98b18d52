theorem d_M_cross_0 : decode b_M_cross 0 = .ok (.aload_n 0, 1) := by decide +kernel
theorem d_M_cross_1 : decode b_M_cross 1 = .ok (.getfield 74, 3) := by decide +kernel
theorem d_M_cross_4 : decode b_M_cross 4 = .ok (.iconst 3, 1) := by decide +kernel
theorem d_M_cross_5 : decode b_M_cross 5 = .ok (.if_icmp .ge (24), 3) := by decide +kernel
theorem d_M_cross_8 : decode b_M_cross 8 = .ok (.iload_n 1, 1) := by decide +kernel
theorem d_M_cross_9 : decode b_M_cross 9 = .ok (.invokestatic 77, 3) := by decide +kernel
theorem d_M_cross_12 : decode b_M_cross 12 = .ok (.ifCond .eq (17), 3) := by decide +kernel
theorem d_M_cross_15 : decode b_M_cross 15 = .ok (.iload_n 2, 1) := by decide +kernel
theorem d_M_cross_16 : decode b_M_cross 16 = .ok (.invokestatic 77, 3) := by decide +kernel
theorem d_M_cross_19 : decode b_M_cross 19 = .ok (.ifCond .eq (10), 3) := by decide +kernel
theorem d_M_cross_22 : decode b_M_cross 22 = .ok (.aload_n 0, 1) := by decide +kernel
theorem d_M_cross_23 : decode b_M_cross 23 = .ok (.getfield 81, 3) := by decide +kernel
theorem d_M_cross_26 : decode b_M_cross 26 = .ok (.ifCond .eq (5), 3) := by decide +kernel
theorem d_M_cross_29 : decode b_M_cross 29 = .ok (.iconst 0, 1) := by decide +kernel
theorem d_M_cross_30 : decode b_M_cross 30 = .ok (.ireturn, 1) := by decide +kernel
theorem d_M_cross_31 : decode b_M_cross 31 = .ok (.iconst 0, 1) := by decide +kernel
theorem d_M_cross_32 : decode b_M_cross 32 = .ok (.istore_n 3, 1) := by decide +kernel
theorem d_M_cross_33 : decode b_M_cross 33 = .ok (.iload_n 3, 1) := by decide +kernel
theorem d_M_cross_34 : decode b_M_cross 34 = .ok (.aload_n 0, 1) := by decide +kernel
theorem d_M_cross_35 : decode b_M_cross 35 = .ok (.getfield 74, 3) := by decide +kernel
theorem d_M_cross_38 : decode b_M_cross 38 = .ok (.if_icmp .ge (31), 3) := by decide +kernel
theorem d_M_cross_41 : decode b_M_cross 41 = .ok (.aload_n 0, 1) := by decide +kernel
theorem d_M_cross_42 : decode b_M_cross 42 = .ok (.getfield 19, 3) := by decide +kernel
theorem d_M_cross_45 : decode b_M_cross 45 = .ok (.iload_n 3, 1) := by decide +kernel
theorem d_M_cross_46 : decode b_M_cross 46 = .ok (.iaload, 1) := by decide +kernel
theorem d_M_cross_47 : decode b_M_cross 47 = .ok (.iload_n 1, 1) := by decide +kernel
theorem d_M_cross_48 : decode b_M_cross 48 = .ok (.if_icmp .ne (15), 3) := by decide +kernel
theorem d_M_cross_51 : decode b_M_cross 51 = .ok (.aload_n 0, 1) := by decide +kernel
theorem d_M_cross_52 : decode b_M_cross 52 = .ok (.getfield 22, 3) := by decide +kernel
theorem d_M_cross_55 : decode b_M_cross 55 = .ok (.iload_n 3, 1) := by decide +kernel
theorem d_M_cross_56 : decode b_M_cross 56 = .ok (.iaload, 1) := by decide +kernel
theorem d_M_cross_57 : decode b_M_cross 57 = .ok (.iload_n 2, 1) := by decide +kernel
theorem d_M_cross_58 : decode b_M_cross 58 = .ok (.if_icmp .ne (5), 3) := by decide +kernel
theorem d_M_cross_61 : decode b_M_cross 61 = .ok (.iconst 0, 1) := by decide +kernel
theorem d_M_cross_62 : decode b_M_cross 62 = .ok (.ireturn, 1) := by decide +kernel
theorem d_M_cross_63 : decode b_M_cross 63 = .ok (.iinc 3 (1), 3) := by decide +kernel
theorem d_M_cross_66 : decode b_M_cross 66 = .ok (.goto (-33), 3) := by decide +kernel
theorem d_M_cross_69 : decode b_M_cross 69 = .ok (.aload_n 0, 1) := by decide +kernel
theorem d_M_cross_70 : decode b_M_cross 70 = .ok (.getfield 19, 3) := by decide +kernel
theorem d_M_cross_73 : decode b_M_cross 73 = .ok (.aload_n 0, 1) := by decide +kernel
theorem d_M_cross_74 : decode b_M_cross 74 = .ok (.getfield 74, 3) := by decide +kernel
theorem d_M_cross_77 : decode b_M_cross 77 = .ok (.iload_n 1, 1) := by decide +kernel
theorem d_M_cross_78 : decode b_M_cross 78 = .ok (.iastore, 1) := by decide +kernel
theorem d_M_cross_79 : decode b_M_cross 79 = .ok (.aload_n 0, 1) := by decide +kernel
theorem d_M_cross_80 : decode b_M_cross 80 = .ok (.getfield 22, 3) := by decide +kernel
theorem d_M_cross_83 : decode b_M_cross 83 = .ok (.aload_n 0, 1) := by decide +kernel
theorem d_M_cross_84 : decode b_M_cross 84 = .ok (.getfield 74, 3) := by decide +kernel
theorem d_M_cross_87 : decode b_M_cross 87 = .ok (.iload_n 2, 1) := by decide +kernel
theorem d_M_cross_88 : decode b_M_cross 88 = .ok (.iastore, 1) := by decide +kernel
theorem d_M_cross_89 : decode b_M_cross 89 = .ok (.aload_n 0, 1) := by decide +kernel
theorem d_M_cross_90 : decode b_M_cross 90 = .ok (.dup, 1) := by decide +kernel
theorem d_M_cross_91 : decode b_M_cross 91 = .ok (.getfield 74, 3) := by decide +kernel
theorem d_M_cross_94 : decode b_M_cross 94 = .ok (.iconst 1, 1) := by decide +kernel
theorem d_M_cross_95 : decode b_M_cross 95 = .ok (.iadd, 1) := by decide +kernel
theorem d_M_cross_96 : decode b_M_cross 96 = .ok (.putfield 74, 3) := by decide +kernel
theorem d_M_cross_99 : decode b_M_cross 99 = .ok (.iconst 1, 1) := by decide +kernel
theorem d_M_cross_100 : decode b_M_cross 100 = .ok (.ireturn, 1) := by decide +kernel
set_option maxHeartbeats 4000000 in
set_option maxRecDepth 100000 in
theorem c_M_cross (l : Launch) (D : va_G) (G : Nat → ClassId) (A : Nat → Prop) (Z : va_W) (h : Nat) (n : Nat) (kd : Int32) (ru : Int32) (ya : Nat) (sz : Nat) (ta : Nat) (la : Nat) (rg : Nat) (so : Nat) (bg : Bool) (nc : Nat) (lfa : Nat) (rta : Nat) (lb : Int32) (wo : Int32) (ft : Nat) (fha : Nat) (fva : Nat) (fla : Nat) (sp : Nat) (tc : Nat) (tha : Nat) (tva : Nat) (wa : Nat) (sa : Nat) (ca : Nat) (va : Nat) (tt : Int64) (ld : Int32) (pt : Int64) (pw : Int64) (rc : Nat) (ra : Nat) (wn : Int32) (cl : Nat → Int32) (cr : Nat → Int32) (c1 : Int32) (c2 : Int32) (hnc : nc ≤ 3) : hq_FI l D G A y_M_cross b_M_cross 4 .boolean 1 [.ref h, .int c1, .int c2] ([hq_o8 h (nI n) kd ru ya (nI sz) ta la (nI rg) (nI so) (hq_z bg) (nI nc) lfa rta lb wo (nI ft) fha fva fla (nI sp) (nI tc) tha tva wa sa ca va tt ld pt pw (nI rc) ra wn, hq_ai lfa (G 0) 3 cl, hq_ai rta (G 0) 3 cr] ++ Z) (hq_z (f_Crossings_add cl cr nc bg c1 c2)) ([hq_o8 h (nI n) kd ru ya (nI sz) ta la (nI rg) (nI so) (hq_z bg) (nI (f_Crossings_add_o1 cl cr nc bg c1 c2)) lfa rta lb wo (nI ft) fha fva fla (nI sp) (nI tc) tha tva wa sa ca va tt ld pt pw (nI rc) ra wn, hq_ai lfa (G 0) 3 (f_Crossings_add_o2 cl cr nc bg c1 c2), hq_ai rta (G 0) 3 (f_Crossings_add_o3 cl cr nc bg c1 c2)] ++ Z) := by
  refine hq_bI (by decide) (Nat.le_of_ble_eq_true rfl) (fun r u h => by rw [h]; exact hq_znar _) ?_
  intro p e s m args below meth c Q hx hb hml hts hown hA hK hN hret ls H locs hl hP hD hS
  have hown : s.vm.findClass "HashedLearnerModel" = some m.cls := hown
  have hl : lv_has ls 4 [(0, .ref h), (1, .int c1), (2, .int c2)] := hl
  refine lv_aload_n hx hb d_M_cross_0 rfl (lv_at hl 0 rfl) ?_
  refine va_get (D := D) (ci := 8) (v := .int (nI nc)) (C := R_M) (T := F_M) (N := 34) hx hb hts uw_M hown hK hP 0 rfl rfl 10 (by decide) (hts _ fl_M_74) (fun _ h9 => h9) rfl d_M_cross_1 ?_
  refine lv_iconst (v := 3) hx hb d_M_cross_4 (by decide) ?_
  refine lv_icmp_ge (tgt := 29) hx hb d_M_cross_5 rfl (fun c5 => ?_) (fun c5 => ?_)
  · -- 5 taken
    have c5 : 3 ≤ nc := (nI_leI (a := 3) (b := nc) (by omega) (by omega)).mp c5
    refine lv_iconst (v := 0) hx hb d_M_cross_29 (by decide) ?_
    have hcx := hq_cx_no (cl := cl) (cr := cr) (k := nc) (cd := bg) (x := c1) (y := c2) (by first | exact Or.inr (Or.inl c5) | exact Or.inr (Or.inr (Or.inl c12)) | exact Or.inr (Or.inr (Or.inr (Or.inl c19))) | exact Or.inl c26)
    have e9_0 : (nI (f_Crossings_add_o1 cl cr nc bg c1 c2)) = (nI nc) := by first | rw [hcx.2.1] | rw [hcx.2.2.1] | rw [hcx.2.2.2]
    have e9_1 : (f_Crossings_add_o2 cl cr nc bg c1 c2) = cl := by first | rw [hcx.2.1] | rw [hcx.2.2.1] | rw [hcx.2.2.2]
    have e9_2 : (f_Crossings_add_o3 cl cr nc bg c1 c2) = cr := by first | rw [hcx.2.1] | rw [hcx.2.2.1] | rw [hcx.2.2.2]
    have hP : va_P D hq_cl ([hq_o8 h (nI n) kd ru ya (nI sz) ta la (nI rg) (nI so) (hq_z bg) (nI (f_Crossings_add_o1 cl cr nc bg c1 c2)) lfa rta lb wo (nI ft) fha fva fla (nI sp) (nI tc) tha tva wa sa ca va tt ld pt pw (nI rc) ra wn, hq_ai lfa (G 0) 3 (f_Crossings_add_o2 cl cr nc bg c1 c2), hq_ai rta (G 0) 3 (f_Crossings_add_o3 cl cr nc bg c1 c2)] ++ Z) H := by rw [e9_0, e9_1, e9_2]; exact hP
    have hD : va_D A ([hq_o8 h (nI n) kd ru ya (nI sz) ta la (nI rg) (nI so) (hq_z bg) (nI (f_Crossings_add_o1 cl cr nc bg c1 c2)) lfa rta lb wo (nI ft) fha fva fla (nI sp) (nI tc) tha tva wa sa ca va tt ld pt pw (nI rc) ra wn, hq_ai lfa (G 0) 3 (f_Crossings_add_o2 cl cr nc bg c1 c2), hq_ai rta (G 0) 3 (f_Crossings_add_o3 cl cr nc bg c1 c2)] ++ Z) := by rw [e9_0, e9_1, e9_2]; exact hD
    exact hret 0 () H locs 30 ls d_M_cross_30 (by rw [hcx.1] <;> rfl) hP hD hS
  · -- 5 not taken
    have c5 : ¬ 3 ≤ nc := fun h => c5 ((nI_leI (a := 3) (b := nc) (by omega) (by omega)).mpr h)
    refine lv_iload_n hx hb d_M_cross_8 rfl (lv_at hl 1 rfl) ?_
    have hPc : va_P D hq_cl ([] ++ ([hq_o8 h (nI n) kd ru ya (nI sz) ta la (nI rg) (nI so) (hq_z bg) (nI nc) lfa rta lb wo (nI ft) fha fva fla (nI sp) (nI tc) tha tva wa sa ca va tt ld pt pw (nI rc) ra wn, hq_ai lfa (G 0) 3 cl, hq_ai rta (G 0) 3 cr] ++ Z)) H := hP
    have hDc : va_D A ([] ++ ([hq_o8 h (nI n) kd ru ya (nI sz) ta la (nI rg) (nI so) (hq_z bg) (nI nc) lfa rta lb wo (nI ft) fha fva fla (nI sp) (nI tc) tha tva wa sa ca va tt ld pt pw (nI rc) ra wn, hq_ai lfa (G 0) 3 cl, hq_ai rta (G 0) 3 cr] ++ Z)) := hD
    refine hq_iF (hq_rS (As := [.int c1]) (rest := []) hx hb hml hown hts (c_M_letter l D G A ([hq_o8 h (nI n) kd ru ya (nI sz) ta la (nI rg) (nI so) (hq_z bg) (nI nc) lfa rta lb wo (nI ft) fha fva fla (nI sp) (nI tc) tha tva wa sa ca va tt ld pt pw (nI rc) ra wn, hq_ai lfa (G 0) 3 cl, hq_ai rta (G 0) 3 cr] ++ Z) c1) yy_M_letter lk_M_77 hA hK hN hS hPc hDc rfl hl.1 rfl (Nat.le_of_ble_eq_true rfl) d_M_cross_9 ⟨by decide, by decide⟩ ⟨by decide, by decide⟩) hS (fun H locs hP hD hS => ?_)
    have hP : va_P D hq_cl ([hq_o8 h (nI n) kd ru ya (nI sz) ta la (nI rg) (nI so) (hq_z bg) (nI nc) lfa rta lb wo (nI ft) fha fva fla (nI sp) (nI tc) tha tva wa sa ca va tt ld pt pw (nI rc) ra wn, hq_ai lfa (G 0) 3 cl, hq_ai rta (G 0) 3 cr] ++ Z) H := hP
    have hD : va_D A ([hq_o8 h (nI n) kd ru ya (nI sz) ta la (nI rg) (nI so) (hq_z bg) (nI nc) lfa rta lb wo (nI ft) fha fva fla (nI sp) (nI tc) tha tva wa sa ca va tt ld pt pw (nI rc) ra wn, hq_ai lfa (G 0) 3 cl, hq_ai rta (G 0) 3 cr] ++ Z) := hD
    refine lv_if_eq (tgt := 29) hx hb d_M_cross_12 rfl (fun c12 => ?_) (fun c12 => ?_)
    · -- 12 taken
      have c12 : ¬ (f_M_letter c1) = true := by rw [hq_z0.mp c12]; decide
      refine lv_iconst (v := 0) hx hb d_M_cross_29 (by decide) ?_
      have hcx := hq_cx_no (cl := cl) (cr := cr) (k := nc) (cd := bg) (x := c1) (y := c2) (by first | exact Or.inr (Or.inl c5) | exact Or.inr (Or.inr (Or.inl c12)) | exact Or.inr (Or.inr (Or.inr (Or.inl c19))) | exact Or.inl c26)
      have e9_0 : (nI (f_Crossings_add_o1 cl cr nc bg c1 c2)) = (nI nc) := by first | rw [hcx.2.1] | rw [hcx.2.2.1] | rw [hcx.2.2.2]
      have e9_1 : (f_Crossings_add_o2 cl cr nc bg c1 c2) = cl := by first | rw [hcx.2.1] | rw [hcx.2.2.1] | rw [hcx.2.2.2]
      have e9_2 : (f_Crossings_add_o3 cl cr nc bg c1 c2) = cr := by first | rw [hcx.2.1] | rw [hcx.2.2.1] | rw [hcx.2.2.2]
      have hP : va_P D hq_cl ([hq_o8 h (nI n) kd ru ya (nI sz) ta la (nI rg) (nI so) (hq_z bg) (nI (f_Crossings_add_o1 cl cr nc bg c1 c2)) lfa rta lb wo (nI ft) fha fva fla (nI sp) (nI tc) tha tva wa sa ca va tt ld pt pw (nI rc) ra wn, hq_ai lfa (G 0) 3 (f_Crossings_add_o2 cl cr nc bg c1 c2), hq_ai rta (G 0) 3 (f_Crossings_add_o3 cl cr nc bg c1 c2)] ++ Z) H := by rw [e9_0, e9_1, e9_2]; exact hP
      have hD : va_D A ([hq_o8 h (nI n) kd ru ya (nI sz) ta la (nI rg) (nI so) (hq_z bg) (nI (f_Crossings_add_o1 cl cr nc bg c1 c2)) lfa rta lb wo (nI ft) fha fva fla (nI sp) (nI tc) tha tva wa sa ca va tt ld pt pw (nI rc) ra wn, hq_ai lfa (G 0) 3 (f_Crossings_add_o2 cl cr nc bg c1 c2), hq_ai rta (G 0) 3 (f_Crossings_add_o3 cl cr nc bg c1 c2)] ++ Z) := by rw [e9_0, e9_1, e9_2]; exact hD
      exact hret 0 () H locs 30 ls d_M_cross_30 (by rw [hcx.1] <;> rfl) hP hD hS
    · -- 12 not taken
      have c12 : (f_M_letter c1) = true := hq_zn.mp c12
      refine lv_iload_n hx hb d_M_cross_15 rfl (lv_at hl 2 rfl) ?_
      have hPc : va_P D hq_cl ([] ++ ([hq_o8 h (nI n) kd ru ya (nI sz) ta la (nI rg) (nI so) (hq_z bg) (nI nc) lfa rta lb wo (nI ft) fha fva fla (nI sp) (nI tc) tha tva wa sa ca va tt ld pt pw (nI rc) ra wn, hq_ai lfa (G 0) 3 cl, hq_ai rta (G 0) 3 cr] ++ Z)) H := hP
      have hDc : va_D A ([] ++ ([hq_o8 h (nI n) kd ru ya (nI sz) ta la (nI rg) (nI so) (hq_z bg) (nI nc) lfa rta lb wo (nI ft) fha fva fla (nI sp) (nI tc) tha tva wa sa ca va tt ld pt pw (nI rc) ra wn, hq_ai lfa (G 0) 3 cl, hq_ai rta (G 0) 3 cr] ++ Z)) := hD
      refine hq_iF (hq_rS (As := [.int c2]) (rest := []) hx hb hml hown hts (c_M_letter l D G A ([hq_o8 h (nI n) kd ru ya (nI sz) ta la (nI rg) (nI so) (hq_z bg) (nI nc) lfa rta lb wo (nI ft) fha fva fla (nI sp) (nI tc) tha tva wa sa ca va tt ld pt pw (nI rc) ra wn, hq_ai lfa (G 0) 3 cl, hq_ai rta (G 0) 3 cr] ++ Z) c2) yy_M_letter lk_M_77 hA hK hN hS hPc hDc rfl hl.1 rfl (Nat.le_of_ble_eq_true rfl) d_M_cross_16 ⟨by decide, by decide⟩ ⟨by decide, by decide⟩) hS (fun H locs hP hD hS => ?_)
      have hP : va_P D hq_cl ([hq_o8 h (nI n) kd ru ya (nI sz) ta la (nI rg) (nI so) (hq_z bg) (nI nc) lfa rta lb wo (nI ft) fha fva fla (nI sp) (nI tc) tha tva wa sa ca va tt ld pt pw (nI rc) ra wn, hq_ai lfa (G 0) 3 cl, hq_ai rta (G 0) 3 cr] ++ Z) H := hP
      have hD : va_D A ([hq_o8 h (nI n) kd ru ya (nI sz) ta la (nI rg) (nI so) (hq_z bg) (nI nc) lfa rta lb wo (nI ft) fha fva fla (nI sp) (nI tc) tha tva wa sa ca va tt ld pt pw (nI rc) ra wn, hq_ai lfa (G 0) 3 cl, hq_ai rta (G 0) 3 cr] ++ Z) := hD
      refine lv_if_eq (tgt := 29) hx hb d_M_cross_19 rfl (fun c19 => ?_) (fun c19 => ?_)
      · -- 19 taken
        have c19 : ¬ (f_M_letter c2) = true := by rw [hq_z0.mp c19]; decide
        refine lv_iconst (v := 0) hx hb d_M_cross_29 (by decide) ?_
        have hcx := hq_cx_no (cl := cl) (cr := cr) (k := nc) (cd := bg) (x := c1) (y := c2) (by first | exact Or.inr (Or.inl c5) | exact Or.inr (Or.inr (Or.inl c12)) | exact Or.inr (Or.inr (Or.inr (Or.inl c19))) | exact Or.inl c26)
        have e9_0 : (nI (f_Crossings_add_o1 cl cr nc bg c1 c2)) = (nI nc) := by first | rw [hcx.2.1] | rw [hcx.2.2.1] | rw [hcx.2.2.2]
        have e9_1 : (f_Crossings_add_o2 cl cr nc bg c1 c2) = cl := by first | rw [hcx.2.1] | rw [hcx.2.2.1] | rw [hcx.2.2.2]
        have e9_2 : (f_Crossings_add_o3 cl cr nc bg c1 c2) = cr := by first | rw [hcx.2.1] | rw [hcx.2.2.1] | rw [hcx.2.2.2]
        have hP : va_P D hq_cl ([hq_o8 h (nI n) kd ru ya (nI sz) ta la (nI rg) (nI so) (hq_z bg) (nI (f_Crossings_add_o1 cl cr nc bg c1 c2)) lfa rta lb wo (nI ft) fha fva fla (nI sp) (nI tc) tha tva wa sa ca va tt ld pt pw (nI rc) ra wn, hq_ai lfa (G 0) 3 (f_Crossings_add_o2 cl cr nc bg c1 c2), hq_ai rta (G 0) 3 (f_Crossings_add_o3 cl cr nc bg c1 c2)] ++ Z) H := by rw [e9_0, e9_1, e9_2]; exact hP
        have hD : va_D A ([hq_o8 h (nI n) kd ru ya (nI sz) ta la (nI rg) (nI so) (hq_z bg) (nI (f_Crossings_add_o1 cl cr nc bg c1 c2)) lfa rta lb wo (nI ft) fha fva fla (nI sp) (nI tc) tha tva wa sa ca va tt ld pt pw (nI rc) ra wn, hq_ai lfa (G 0) 3 (f_Crossings_add_o2 cl cr nc bg c1 c2), hq_ai rta (G 0) 3 (f_Crossings_add_o3 cl cr nc bg c1 c2)] ++ Z) := by rw [e9_0, e9_1, e9_2]; exact hD
        exact hret 0 () H locs 30 ls d_M_cross_30 (by rw [hcx.1] <;> rfl) hP hD hS
      · -- 19 not taken
        have c19 : (f_M_letter c2) = true := hq_zn.mp c19
        refine lv_aload_n hx hb d_M_cross_22 rfl (lv_at hl 0 rfl) ?_
        refine va_get (D := D) (ci := 8) (v := .int (hq_z bg)) (C := R_M) (T := F_M) (N := 34) hx hb hts uw_M hown hK hP 0 rfl rfl 9 (by decide) (hts _ fl_M_81) (fun _ h9 => h9) rfl d_M_cross_23 ?_
        refine lv_if_eq (tgt := 31) hx hb d_M_cross_26 rfl (fun c26 => ?_) (fun c26 => ?_)
        · -- 26 taken
          have c26 : ¬ bg = true := by rw [hq_z0.mp c26]; decide
          refine lv_iconst (v := nI 0) hx hb d_M_cross_31 (by decide) ?_
          refine lv_istore_n (nL := 4) (lv' := [(3, .int (nI 0)), (0, .ref h), (1, .int c1), (2, .int c2)]) hx hb d_M_cross_32 rfl hl (by decide) rfl (fun ls hl => ?_)
          have cut33 : ∀ (kz : Nat) (a : Nat) (ls : Array Slot) (H : Heap) (locs : List Loc), nc - a = kz → (a ≤ nc) → (hq_hasP cl cr c1 c2 0 nc = hq_hasP cl cr c1 c2 a (nc - a)) → lv_has ls 4 [(0, .ref h), (1, .int c1), (2, .int c2), (3, .int (nI a))] → va_P D hq_cl ([hq_o8 h (nI n) kd ru ya (nI sz) ta la (nI rg) (nI so) (hq_z bg) (nI nc) lfa rta lb wo (nI ft) fha fva fla (nI sp) (nI tc) tha tva wa sa ca va tt ld pt pw (nI rc) ra wn, hq_ai lfa (G 0) 3 cl, hq_ai rta (G 0) 3 cr] ++ Z) H → va_D A ([hq_o8 h (nI n) kd ru ya (nI sz) ta la (nI rg) (nI so) (hq_z bg) (nI nc) lfa rta lb wo (nI ft) fha fva fla (nI sp) (nI tc) tha tva wa sa ca va tt ld pt pw (nI rc) ra wn, hq_ai lfa (G 0) 3 cl, hq_ai rta (G 0) 3 cr] ++ Z) → va_S A s.heap H locs → W p l e (hq_rm 1 0 0) s m args below meth c H locs 0 0 Q (F0 m 33 ls []) := by
            intro kz
            induction kz using Nat.strongRecOn with
            | ind kz ih =>
              intro a ls H locs hkz ha hF hl hP hD hS
              subst hkz
              refine lv_iload_n hx hb d_M_cross_33 rfl (lv_at hl 3 rfl) ?_
              refine lv_aload_n hx hb d_M_cross_34 rfl (lv_at hl 0 rfl) ?_
              refine va_get (D := D) (ci := 8) (v := .int (nI nc)) (C := R_M) (T := F_M) (N := 34) hx hb hts uw_M hown hK hP 0 rfl rfl 10 (by decide) (hts _ fl_M_74) (fun _ h9 => h9) rfl d_M_cross_35 ?_
              refine lv_icmp_ge (tgt := 69) hx hb d_M_cross_38 rfl (fun c38 => ?_) (fun c38 => ?_)
              · -- 38 taken
                have c38 : nc ≤ a := (nI_leI (a := nc) (b := a) (by omega) (by omega)).mp c38
                refine lv_aload_n hx hb d_M_cross_69 rfl (lv_at hl 0 rfl) ?_
                refine va_get (D := D) (ci := 8) (v := .ref lfa) (C := R_M) (T := F_M) (N := 34) hx hb hts uw_M hown hK hP 0 rfl rfl 11 (by decide) (hts _ fl_M_19) (fun _ h9 => h9) rfl d_M_cross_70 ?_
                refine lv_aload_n hx hb d_M_cross_73 rfl (lv_at hl 0 rfl) ?_
                refine va_get (D := D) (ci := 8) (v := .int (nI nc)) (C := R_M) (T := F_M) (N := 34) hx hb hts uw_M hown hK hP 0 rfl rfl 10 (by decide) (hts _ fl_M_74) (fun _ h9 => h9) rfl d_M_cross_74 ?_
                refine lv_iload_n hx hb d_M_cross_77 rfl (lv_at hl 1 rfl) ?_
                refine hq_iast (j := nc) hx hb hK hP hD hS 1 rfl (by omega) (by omega) d_M_cross_78 (fun H locs hP hD hS => ?_)
                have hP : va_P D hq_cl ([hq_o8 h (nI n) kd ru ya (nI sz) ta la (nI rg) (nI so) (hq_z bg) (nI nc) lfa rta lb wo (nI ft) fha fva fla (nI sp) (nI tc) tha tva wa sa ca va tt ld pt pw (nI rc) ra wn, hq_ai lfa (G 0) 3 (upd cl nc c1), hq_ai rta (G 0) 3 cr] ++ Z) H := hP
                have hD : va_D A ([hq_o8 h (nI n) kd ru ya (nI sz) ta la (nI rg) (nI so) (hq_z bg) (nI nc) lfa rta lb wo (nI ft) fha fva fla (nI sp) (nI tc) tha tva wa sa ca va tt ld pt pw (nI rc) ra wn, hq_ai lfa (G 0) 3 (upd cl nc c1), hq_ai rta (G 0) 3 cr] ++ Z) := hD
                refine lv_aload_n hx hb d_M_cross_79 rfl (lv_at hl 0 rfl) ?_
                refine va_get (D := D) (ci := 8) (v := .ref rta) (C := R_M) (T := F_M) (N := 34) hx hb hts uw_M hown hK hP 0 rfl rfl 12 (by decide) (hts _ fl_M_22) (fun _ h9 => h9) rfl d_M_cross_80 ?_
                refine lv_aload_n hx hb d_M_cross_83 rfl (lv_at hl 0 rfl) ?_
                refine va_get (D := D) (ci := 8) (v := .int (nI nc)) (C := R_M) (T := F_M) (N := 34) hx hb hts uw_M hown hK hP 0 rfl rfl 10 (by decide) (hts _ fl_M_74) (fun _ h9 => h9) rfl d_M_cross_84 ?_
                refine lv_iload_n hx hb d_M_cross_87 rfl (lv_at hl 2 rfl) ?_
                refine hq_iast (j := nc) hx hb hK hP hD hS 2 rfl (by omega) (by omega) d_M_cross_88 (fun H locs hP hD hS => ?_)
                have hP : va_P D hq_cl ([hq_o8 h (nI n) kd ru ya (nI sz) ta la (nI rg) (nI so) (hq_z bg) (nI nc) lfa rta lb wo (nI ft) fha fva fla (nI sp) (nI tc) tha tva wa sa ca va tt ld pt pw (nI rc) ra wn, hq_ai lfa (G 0) 3 (upd cl nc c1), hq_ai rta (G 0) 3 (upd cr nc c2)] ++ Z) H := hP
                have hD : va_D A ([hq_o8 h (nI n) kd ru ya (nI sz) ta la (nI rg) (nI so) (hq_z bg) (nI nc) lfa rta lb wo (nI ft) fha fva fla (nI sp) (nI tc) tha tva wa sa ca va tt ld pt pw (nI rc) ra wn, hq_ai lfa (G 0) 3 (upd cl nc c1), hq_ai rta (G 0) 3 (upd cr nc c2)] ++ Z) := hD
                refine lv_aload_n hx hb d_M_cross_89 rfl (lv_at hl 0 rfl) ?_
                refine lv_dup hx hb d_M_cross_90 rfl ?_
                refine va_get (D := D) (ci := 8) (v := .int (nI nc)) (C := R_M) (T := F_M) (N := 34) hx hb hts uw_M hown hK hP 0 rfl rfl 10 (by decide) (hts _ fl_M_74) (fun _ h9 => h9) rfl d_M_cross_91 ?_
                refine lv_iconst (v := 1) hx hb d_M_cross_94 (by decide) ?_
                refine lv_iadd hx hb d_M_cross_95 ?_
                refine hq_topi (x' := nI (nc + 1)) (nI_add nc 1) ?_
                refine va_put (D := D) (ci := 8) (v := .int (nI (nc + 1))) (ty := .int) (C := R_M) (T := F_M) (N := 34) hx hb hts uw_M t_M t_M_ok n_M hown hK hP hD hS 0 rfl rfl 10 (by decide) (hts _ fl_M_74) (fun _ h9 => h9) rfl (by decide +kernel) (rfl) (rfl) (Nat.le_of_ble_eq_true rfl) d_M_cross_96 (fun H locs hP hD hS => ?_)
                have hP : va_P D hq_cl ([hq_o8 h (nI n) kd ru ya (nI sz) ta la (nI rg) (nI so) (hq_z bg) (nI (nc + 1)) lfa rta lb wo (nI ft) fha fva fla (nI sp) (nI tc) tha tva wa sa ca va tt ld pt pw (nI rc) ra wn, hq_ai lfa (G 0) 3 (upd cl nc c1), hq_ai rta (G 0) 3 (upd cr nc c2)] ++ Z) H := hP
                have hD : va_D A ([hq_o8 h (nI n) kd ru ya (nI sz) ta la (nI rg) (nI so) (hq_z bg) (nI (nc + 1)) lfa rta lb wo (nI ft) fha fva fla (nI sp) (nI tc) tha tva wa sa ca va tt ld pt pw (nI rc) ra wn, hq_ai lfa (G 0) 3 (upd cl nc c1), hq_ai rta (G 0) 3 (upd cr nc c2)] ++ Z) := hD
                refine lv_iconst (v := 1) hx hb d_M_cross_99 (by decide) ?_
                have hcx := hq_cx_yes (cl := cl) (cr := cr) c26 c5 c12 c19 (by rw [hF, hq_hasP_end (f := cl) (g := cr) (a := a) (j := nc) (by omega)]; decide)
                have e9_0 : (nI (f_Crossings_add_o1 cl cr nc bg c1 c2)) = (nI (nc + 1)) := by first | rw [hcx.2.1] | rw [hcx.2.2.1] | rw [hcx.2.2.2]
                have e9_1 : (f_Crossings_add_o2 cl cr nc bg c1 c2) = (upd cl nc c1) := by first | rw [hcx.2.1] | rw [hcx.2.2.1] | rw [hcx.2.2.2]
                have e9_2 : (f_Crossings_add_o3 cl cr nc bg c1 c2) = (upd cr nc c2) := by first | rw [hcx.2.1] | rw [hcx.2.2.1] | rw [hcx.2.2.2]
                have hP : va_P D hq_cl ([hq_o8 h (nI n) kd ru ya (nI sz) ta la (nI rg) (nI so) (hq_z bg) (nI (f_Crossings_add_o1 cl cr nc bg c1 c2)) lfa rta lb wo (nI ft) fha fva fla (nI sp) (nI tc) tha tva wa sa ca va tt ld pt pw (nI rc) ra wn, hq_ai lfa (G 0) 3 (f_Crossings_add_o2 cl cr nc bg c1 c2), hq_ai rta (G 0) 3 (f_Crossings_add_o3 cl cr nc bg c1 c2)] ++ Z) H := by rw [e9_0, e9_1, e9_2]; exact hP
                have hD : va_D A ([hq_o8 h (nI n) kd ru ya (nI sz) ta la (nI rg) (nI so) (hq_z bg) (nI (f_Crossings_add_o1 cl cr nc bg c1 c2)) lfa rta lb wo (nI ft) fha fva fla (nI sp) (nI tc) tha tva wa sa ca va tt ld pt pw (nI rc) ra wn, hq_ai lfa (G 0) 3 (f_Crossings_add_o2 cl cr nc bg c1 c2), hq_ai rta (G 0) 3 (f_Crossings_add_o3 cl cr nc bg c1 c2)] ++ Z) := by rw [e9_0, e9_1, e9_2]; exact hD
                exact hret 1 () H locs 100 ls d_M_cross_100 (by rw [hcx.1] <;> rfl) hP hD hS
              · -- 38 not taken
                have c38 : ¬ nc ≤ a := fun h => c38 ((nI_leI (a := nc) (b := a) (by omega) (by omega)).mpr h)
                refine lv_aload_n hx hb d_M_cross_41 rfl (lv_at hl 0 rfl) ?_
                refine va_get (D := D) (ci := 8) (v := .ref lfa) (C := R_M) (T := F_M) (N := 34) hx hb hts uw_M hown hK hP 0 rfl rfl 11 (by decide) (hts _ fl_M_19) (fun _ h9 => h9) rfl d_M_cross_42 ?_
                refine lv_iload_n hx hb d_M_cross_45 rfl (lv_at hl 3 rfl) ?_
                refine hq_iald (j := a) hx hb hK hP 1 rfl (by omega) (by omega) d_M_cross_46 ?_
                refine lv_iload_n hx hb d_M_cross_47 rfl (lv_at hl 1 rfl) ?_
                refine lv_icmp_ne (tgt := 63) hx hb d_M_cross_48 rfl (fun c48 => ?_) (fun c48 => ?_)
                · -- 48 taken
                  have c48 : ¬ (cl a) = c1 := c48
                  refine lv_iinc (nL := 4) (k := 3) (v := nI (a + 1)) (lv' := [(3, .int (nI (a + 1))), (0, .ref h), (1, .int c1), (2, .int c2)]) hx hb d_M_cross_63 hl rfl (nI_add a 1) (by decide) rfl (fun ls hl => ?_)
                  refine lv_goto (tgt := 33) hx hb d_M_cross_66 rfl ?_
                  exact ih _ (by omega) (a + 1) ls H locs rfl (by first | assumption | omega) (by first | exact hF.trans (hq_hasP_l (by omega) c48) | exact hF.trans (hq_hasP_r (by omega) c58)) (lv_sub hl [1, 2, 3, 0] rfl) hP hD hS
                · -- 48 not taken
                  have c48 : (cl a) = c1 := c48
                  refine lv_aload_n hx hb d_M_cross_51 rfl (lv_at hl 0 rfl) ?_
                  refine va_get (D := D) (ci := 8) (v := .ref rta) (C := R_M) (T := F_M) (N := 34) hx hb hts uw_M hown hK hP 0 rfl rfl 12 (by decide) (hts _ fl_M_22) (fun _ h9 => h9) rfl d_M_cross_52 ?_
                  refine lv_iload_n hx hb d_M_cross_55 rfl (lv_at hl 3 rfl) ?_
                  refine hq_iald (j := a) hx hb hK hP 2 rfl (by omega) (by omega) d_M_cross_56 ?_
                  refine lv_iload_n hx hb d_M_cross_57 rfl (lv_at hl 2 rfl) ?_
                  refine lv_icmp_ne (tgt := 63) hx hb d_M_cross_58 rfl (fun c58 => ?_) (fun c58 => ?_)
                  · -- 58 taken
                    have c58 : ¬ (cr a) = c2 := c58
                    refine lv_iinc (nL := 4) (k := 3) (v := nI (a + 1)) (lv' := [(3, .int (nI (a + 1))), (0, .ref h), (1, .int c1), (2, .int c2)]) hx hb d_M_cross_63 hl rfl (nI_add a 1) (by decide) rfl (fun ls hl => ?_)
                    refine lv_goto (tgt := 33) hx hb d_M_cross_66 rfl ?_
                    exact ih _ (by omega) (a + 1) ls H locs rfl (by first | assumption | omega) (by first | exact hF.trans (hq_hasP_l (by omega) c48) | exact hF.trans (hq_hasP_r (by omega) c58)) (lv_sub hl [1, 2, 3, 0] rfl) hP hD hS
                  · -- 58 not taken
                    have c58 : (cr a) = c2 := c58
                    refine lv_iconst (v := 0) hx hb d_M_cross_61 (by decide) ?_
                    have hcx := hq_cx_no (cl := cl) (cr := cr) (k := nc) (cd := bg) (x := c1) (y := c2) (Or.inr (Or.inr (Or.inr (Or.inr (by rw [hF, hq_hasP_yes (f := cl) (g := cr) (a := a) (j := nc) (by omega) c48 c58])))))
                    have e9_0 : (nI (f_Crossings_add_o1 cl cr nc bg c1 c2)) = (nI nc) := by first | rw [hcx.2.1] | rw [hcx.2.2.1] | rw [hcx.2.2.2]
                    have e9_1 : (f_Crossings_add_o2 cl cr nc bg c1 c2) = cl := by first | rw [hcx.2.1] | rw [hcx.2.2.1] | rw [hcx.2.2.2]
                    have e9_2 : (f_Crossings_add_o3 cl cr nc bg c1 c2) = cr := by first | rw [hcx.2.1] | rw [hcx.2.2.1] | rw [hcx.2.2.2]
                    have hP : va_P D hq_cl ([hq_o8 h (nI n) kd ru ya (nI sz) ta la (nI rg) (nI so) (hq_z bg) (nI (f_Crossings_add_o1 cl cr nc bg c1 c2)) lfa rta lb wo (nI ft) fha fva fla (nI sp) (nI tc) tha tva wa sa ca va tt ld pt pw (nI rc) ra wn, hq_ai lfa (G 0) 3 (f_Crossings_add_o2 cl cr nc bg c1 c2), hq_ai rta (G 0) 3 (f_Crossings_add_o3 cl cr nc bg c1 c2)] ++ Z) H := by rw [e9_0, e9_1, e9_2]; exact hP
                    have hD : va_D A ([hq_o8 h (nI n) kd ru ya (nI sz) ta la (nI rg) (nI so) (hq_z bg) (nI (f_Crossings_add_o1 cl cr nc bg c1 c2)) lfa rta lb wo (nI ft) fha fva fla (nI sp) (nI tc) tha tva wa sa ca va tt ld pt pw (nI rc) ra wn, hq_ai lfa (G 0) 3 (f_Crossings_add_o2 cl cr nc bg c1 c2), hq_ai rta (G 0) 3 (f_Crossings_add_o3 cl cr nc bg c1 c2)] ++ Z) := by rw [e9_0, e9_1, e9_2]; exact hD
                    exact hret 0 () H locs 62 ls d_M_cross_62 (by rw [hcx.1] <;> rfl) hP hD hS
          exact cut33 _ 0 ls H locs rfl (by first | assumption | omega) (rfl) (lv_sub hl [1, 2, 3, 0] rfl) hP hD hS
        · -- 26 not taken
          have c26 : bg = true := hq_zn.mp c26
          refine lv_iconst (v := 0) hx hb d_M_cross_29 (by decide) ?_
          have hcx := hq_cx_no (cl := cl) (cr := cr) (k := nc) (cd := bg) (x := c1) (y := c2) (by first | exact Or.inr (Or.inl c5) | exact Or.inr (Or.inr (Or.inl c12)) | exact Or.inr (Or.inr (Or.inr (Or.inl c19))) | exact Or.inl c26)
          have e9_0 : (nI (f_Crossings_add_o1 cl cr nc bg c1 c2)) = (nI nc) := by first | rw [hcx.2.1] | rw [hcx.2.2.1] | rw [hcx.2.2.2]
          have e9_1 : (f_Crossings_add_o2 cl cr nc bg c1 c2) = cl := by first | rw [hcx.2.1] | rw [hcx.2.2.1] | rw [hcx.2.2.2]
          have e9_2 : (f_Crossings_add_o3 cl cr nc bg c1 c2) = cr := by first | rw [hcx.2.1] | rw [hcx.2.2.1] | rw [hcx.2.2.2]
          have hP : va_P D hq_cl ([hq_o8 h (nI n) kd ru ya (nI sz) ta la (nI rg) (nI so) (hq_z bg) (nI (f_Crossings_add_o1 cl cr nc bg c1 c2)) lfa rta lb wo (nI ft) fha fva fla (nI sp) (nI tc) tha tva wa sa ca va tt ld pt pw (nI rc) ra wn, hq_ai lfa (G 0) 3 (f_Crossings_add_o2 cl cr nc bg c1 c2), hq_ai rta (G 0) 3 (f_Crossings_add_o3 cl cr nc bg c1 c2)] ++ Z) H := by rw [e9_0, e9_1, e9_2]; exact hP
          have hD : va_D A ([hq_o8 h (nI n) kd ru ya (nI sz) ta la (nI rg) (nI so) (hq_z bg) (nI (f_Crossings_add_o1 cl cr nc bg c1 c2)) lfa rta lb wo (nI ft) fha fva fla (nI sp) (nI tc) tha tva wa sa ca va tt ld pt pw (nI rc) ra wn, hq_ai lfa (G 0) 3 (f_Crossings_add_o2 cl cr nc bg c1 c2), hq_ai rta (G 0) 3 (f_Crossings_add_o3 cl cr nc bg c1 c2)] ++ Z) := by rw [e9_0, e9_1, e9_2]; exact hD
          exact hret 0 () H locs 30 ls d_M_cross_30 (by rw [hcx.1] <;> rfl) hP hD hS
