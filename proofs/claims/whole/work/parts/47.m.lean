theorem d_M_peek_0 : decode b_M_peek 0 = .ok (.aload_n 0, 1) := by decide +kernel
theorem d_M_peek_1 : decode b_M_peek 1 = .ok (.getfield 222, 3) := by decide +kernel
theorem d_M_peek_4 : decode b_M_peek 4 = .ok (.ifCond .ne (6), 3) := by decide +kernel
theorem d_M_peek_7 : decode b_M_peek 7 = .ok (.ldc 247, 2) := by decide +kernel
theorem d_M_peek_9 : decode b_M_peek 9 = .ok (.ireturn, 1) := by decide +kernel
theorem d_M_peek_10 : decode b_M_peek 10 = .ok (.aload_n 0, 1) := by decide +kernel
theorem d_M_peek_11 : decode b_M_peek 11 = .ok (.iconst 0, 1) := by decide +kernel
theorem d_M_peek_12 : decode b_M_peek 12 = .ok (.invokevirtual 248, 3) := by decide +kernel
theorem d_M_peek_15 : decode b_M_peek 15 = .ok (.aload_n 0, 1) := by decide +kernel
theorem d_M_peek_16 : decode b_M_peek 16 = .ok (.invokevirtual 208, 3) := by decide +kernel
theorem d_M_peek_19 : decode b_M_peek 19 = .ok (.l2i, 1) := by decide +kernel
theorem d_M_peek_20 : decode b_M_peek 20 = .ok (.ireturn, 1) := by decide +kernel
set_option maxHeartbeats 4000000 in
set_option maxRecDepth 100000 in
theorem c_M_peek_no (l : Launch) (D : va_G) (G : Nat → ClassId) (A : Nat → Prop) (Z : va_W) (h : Nat) (fs : List Value) (rg : Nat) (hf7 : fs[7]? = some (.int (nI rg))) (hrg : rg = 0) : hq_FI l D G A y_M_peek b_M_peek 1 .int 0 [.ref h] ([(h, .inr (8, fs))] ++ Z) ((-2147483648)) ([(h, .inr (8, fs))] ++ Z) := by
  refine hq_bI (by decide) (Nat.le_of_ble_eq_true rfl) (fun _ _ _ => rfl) ?_
  intro p e s m args below meth c Q hx hb hml hts hown hA hK hN hret ls H locs hl hP hD hS
  have hown : s.vm.findClass "HashedLearnerModel" = some m.cls := hown
  have hl : lv_has ls 1 [(0, .ref h)] := hl
  refine lv_aload_n hx hb d_M_peek_0 rfl (lv_at hl 0 rfl) ?_
  refine va_get (D := D) (ci := 8) (v := .int (nI rg)) (C := R_M) (T := F_M) (N := 34) hx hb hts uw_M hown hK hP 0 rfl rfl 7 (by decide) (hts _ fl_M_222) (fun _ h9 => h9) hf7 d_M_peek_1 ?_
  refine lv_if_ne (tgt := 10) hx hb d_M_peek_4 rfl (fun c4 => ?_) (fun c4 => ?_)
  · -- 4 taken
    have c4 : ¬ rg = 0 := fun h => c4 ((nI_eq (a := rg) (b := 0) (by omega) (by omega)).mpr h)
    exact absurd hrg c4
  · -- 4 not taken
    have c4 : rg = 0 := (nI_eq (a := rg) (b := 0) (by omega) (by omega)).mp c4
    refine lv_ldc (v := (-2147483648)) hx hb hown (hts _ ki_M_247) d_M_peek_7 ?_
    exact hret (-2147483648) () H locs 9 ls d_M_peek_9 (by simp [c4]) hP hD hS
theorem d_M_terms_0 : decode b_M_terms 0 = .ok (.aload_n 0, 1) := by decide +kernel
theorem d_M_terms_1 : decode b_M_terms 1 = .ok (.getfield 222, 3) := by decide +kernel
theorem d_M_terms_4 : decode b_M_terms 4 = .ok (.ifCond .ne (5), 3) := by decide +kernel
theorem d_M_terms_7 : decode b_M_terms 7 = .ok (.iconst (-1), 1) := by decide +kernel
theorem d_M_terms_8 : decode b_M_terms 8 = .ok (.ireturn, 1) := by decide +kernel
theorem d_M_terms_9 : decode b_M_terms 9 = .ok (.aload_n 0, 1) := by decide +kernel
theorem d_M_terms_10 : decode b_M_terms 10 = .ok (.iconst 0, 1) := by decide +kernel
theorem d_M_terms_11 : decode b_M_terms 11 = .ok (.invokevirtual 248, 3) := by decide +kernel
theorem d_M_terms_14 : decode b_M_terms 14 = .ok (.aload_n 0, 1) := by decide +kernel
theorem d_M_terms_15 : decode b_M_terms 15 = .ok (.getfield 161, 3) := by decide +kernel
theorem d_M_terms_18 : decode b_M_terms 18 = .ok (.ireturn, 1) := by decide +kernel
set_option maxHeartbeats 4000000 in
set_option maxRecDepth 100000 in
theorem c_M_terms_no (l : Launch) (D : va_G) (G : Nat → ClassId) (A : Nat → Prop) (Z : va_W) (h : Nat) (fs : List Value) (rg : Nat) (hf7 : fs[7]? = some (.int (nI rg))) (hrg : rg = 0) : hq_FI l D G A y_M_terms b_M_terms 1 .int 0 [.ref h] ([(h, .inr (8, fs))] ++ Z) ((-1)) ([(h, .inr (8, fs))] ++ Z) := by
  refine hq_bI (by decide) (Nat.le_of_ble_eq_true rfl) (fun _ _ _ => rfl) ?_
  intro p e s m args below meth c Q hx hb hml hts hown hA hK hN hret ls H locs hl hP hD hS
  have hown : s.vm.findClass "HashedLearnerModel" = some m.cls := hown
  have hl : lv_has ls 1 [(0, .ref h)] := hl
  refine lv_aload_n hx hb d_M_terms_0 rfl (lv_at hl 0 rfl) ?_
  refine va_get (D := D) (ci := 8) (v := .int (nI rg)) (C := R_M) (T := F_M) (N := 34) hx hb hts uw_M hown hK hP 0 rfl rfl 7 (by decide) (hts _ fl_M_222) (fun _ h9 => h9) hf7 d_M_terms_1 ?_
  refine lv_if_ne (tgt := 9) hx hb d_M_terms_4 rfl (fun c4 => ?_) (fun c4 => ?_)
  · -- 4 taken
    have c4 : ¬ rg = 0 := fun h => c4 ((nI_eq (a := rg) (b := 0) (by omega) (by omega)).mpr h)
    exact absurd hrg c4
  · -- 4 not taken
    have c4 : rg = 0 := (nI_eq (a := rg) (b := 0) (by omega) (by omega)).mp c4
    refine lv_iconst (v := (-1)) hx hb d_M_terms_7 (by decide) ?_
    exact hret (-1) () H locs 8 ls d_M_terms_8 (by simp [c4]) hP hD hS
theorem d_M_learn_0 : decode b_M_learn 0 = .ok (.aload_n 0, 1) := by decide +kernel
theorem d_M_learn_1 : decode b_M_learn 1 = .ok (.getfield 222, 3) := by decide +kernel
theorem d_M_learn_4 : decode b_M_learn 4 = .ok (.ifCond .ne (6), 3) := by decide +kernel
theorem d_M_learn_7 : decode b_M_learn 7 = .ok (.ldc 247, 2) := by decide +kernel
theorem d_M_learn_9 : decode b_M_learn 9 = .ok (.ireturn, 1) := by decide +kernel
theorem d_M_learn_10 : decode b_M_learn 10 = .ok (.aload_n 0, 1) := by decide +kernel
theorem d_M_learn_11 : decode b_M_learn 11 = .ok (.iconst 0, 1) := by decide +kernel
theorem d_M_learn_12 : decode b_M_learn 12 = .ok (.invokevirtual 248, 3) := by decide +kernel
theorem d_M_learn_15 : decode b_M_learn 15 = .ok (.aload_n 0, 1) := by decide +kernel
theorem d_M_learn_16 : decode b_M_learn 16 = .ok (.invokevirtual 208, 3) := by decide +kernel
theorem d_M_learn_19 : decode b_M_learn 19 = .ok (.lstore_n 1, 1) := by decide +kernel
theorem d_M_learn_20 : decode b_M_learn 20 = .ok (.aload_n 0, 1) := by decide +kernel
theorem d_M_learn_21 : decode b_M_learn 21 = .ok (.getfield 97, 3) := by decide +kernel
theorem d_M_learn_24 : decode b_M_learn 24 = .ok (.ldc 93, 2) := by decide +kernel
theorem d_M_learn_26 : decode b_M_learn 26 = .ok (.if_icmp .eq (46), 3) := by decide +kernel
theorem d_M_learn_29 : decode b_M_learn 29 = .ok (.aload_n 0, 1) := by decide +kernel
theorem d_M_learn_30 : decode b_M_learn 30 = .ok (.lload_n 1, 1) := by decide +kernel
theorem d_M_learn_31 : decode b_M_learn 31 = .ok (.invokevirtual 252, 3) := by decide +kernel
theorem d_M_learn_34 : decode b_M_learn 34 = .ok (.aload_n 0, 1) := by decide +kernel
theorem d_M_learn_35 : decode b_M_learn 35 = .ok (.aload_n 0, 1) := by decide +kernel
theorem d_M_learn_36 : decode b_M_learn 36 = .ok (.getfield 100, 3) := by decide +kernel
theorem d_M_learn_39 : decode b_M_learn 39 = .ok (.invokevirtual 256, 3) := by decide +kernel
theorem d_M_learn_42 : decode b_M_learn 42 = .ok (.aload_n 0, 1) := by decide +kernel
theorem d_M_learn_43 : decode b_M_learn 43 = .ok (.getfield 259, 3) := by decide +kernel
theorem d_M_learn_46 : decode b_M_learn 46 = .ok (.bipush (16), 2) := by decide +kernel
theorem d_M_learn_48 : decode b_M_learn 48 = .ok (.if_icmp .ge (24), 3) := by decide +kernel
theorem d_M_learn_51 : decode b_M_learn 51 = .ok (.aload_n 0, 1) := by decide +kernel
theorem d_M_learn_52 : decode b_M_learn 52 = .ok (.iconst 0, 1) := by decide +kernel
theorem d_M_learn_53 : decode b_M_learn 53 = .ok (.iconst 4, 1) := by decide +kernel
theorem d_M_learn_54 : decode b_M_learn 54 = .ok (.aload_n 0, 1) := by decide +kernel
theorem d_M_learn_55 : decode b_M_learn 55 = .ok (.getfield 259, 3) := by decide +kernel
theorem d_M_learn_58 : decode b_M_learn 58 = .ok (.iadd, 1) := by decide +kernel
theorem d_M_learn_59 : decode b_M_learn 59 = .ok (.invokevirtual 262, 3) := by decide +kernel
theorem d_M_learn_62 : decode b_M_learn 62 = .ok (.aload_n 0, 1) := by decide +kernel
theorem d_M_learn_63 : decode b_M_learn 63 = .ok (.dup, 1) := by decide +kernel
theorem d_M_learn_64 : decode b_M_learn 64 = .ok (.getfield 259, 3) := by decide +kernel
theorem d_M_learn_67 : decode b_M_learn 67 = .ok (.iconst 1, 1) := by decide +kernel
theorem d_M_learn_68 : decode b_M_learn 68 = .ok (.iadd, 1) := by decide +kernel
theorem d_M_learn_69 : decode b_M_learn 69 = .ok (.putfield 259, 3) := by decide +kernel
theorem d_M_learn_72 : decode b_M_learn 72 = .ok (.iconst 1, 1) := by decide +kernel
theorem d_M_learn_73 : decode b_M_learn 73 = .ok (.istore_n 3, 1) := by decide +kernel
theorem d_M_learn_74 : decode b_M_learn 74 = .ok (.iload_n 3, 1) := by decide +kernel
theorem d_M_learn_75 : decode b_M_learn 75 = .ok (.aload_n 0, 1) := by decide +kernel
theorem d_M_learn_76 : decode b_M_learn 76 = .ok (.getfield 222, 3) := by decide +kernel
theorem d_M_learn_79 : decode b_M_learn 79 = .ok (.if_icmp .ge (17), 3) := by decide +kernel
theorem d_M_learn_82 : decode b_M_learn 82 = .ok (.aload_n 0, 1) := by decide +kernel
theorem d_M_learn_83 : decode b_M_learn 83 = .ok (.iload_n 3, 1) := by decide +kernel
theorem d_M_learn_84 : decode b_M_learn 84 = .ok (.iload_n 3, 1) := by decide +kernel
theorem d_M_learn_85 : decode b_M_learn 85 = .ok (.iconst 1, 1) := by decide +kernel
theorem d_M_learn_86 : decode b_M_learn 86 = .ok (.isub, 1) := by decide +kernel
theorem d_M_learn_87 : decode b_M_learn 87 = .ok (.invokevirtual 262, 3) := by decide +kernel
theorem d_M_learn_90 : decode b_M_learn 90 = .ok (.iinc 3 (1), 3) := by decide +kernel
theorem d_M_learn_93 : decode b_M_learn 93 = .ok (.goto (-19), 3) := by decide +kernel
theorem d_M_learn_96 : decode b_M_learn 96 = .ok (.aload_n 0, 1) := by decide +kernel
theorem d_M_learn_97 : decode b_M_learn 97 = .ok (.dup, 1) := by decide +kernel
theorem d_M_learn_98 : decode b_M_learn 98 = .ok (.getfield 222, 3) := by decide +kernel
theorem d_M_learn_101 : decode b_M_learn 101 = .ok (.iconst 1, 1) := by decide +kernel
theorem d_M_learn_102 : decode b_M_learn 102 = .ok (.isub, 1) := by decide +kernel
theorem d_M_learn_103 : decode b_M_learn 103 = .ok (.putfield 222, 3) := by decide +kernel
theorem d_M_learn_106 : decode b_M_learn 106 = .ok (.lload_n 1, 1) := by decide +kernel
theorem d_M_learn_107 : decode b_M_learn 107 = .ok (.l2i, 1) := by decide +kernel
theorem d_M_learn_108 : decode b_M_learn 108 = .ok (.ireturn, 1) := by decide +kernel
set_option maxHeartbeats 4000000 in
set_option maxRecDepth 100000 in
theorem c_M_learn_no (l : Launch) (D : va_G) (G : Nat → ClassId) (A : Nat → Prop) (Z : va_W) (h : Nat) (fs : List Value) (rg : Nat) (hf7 : fs[7]? = some (.int (nI rg))) (hrg : rg = 0) : hq_FI l D G A y_M_learn b_M_learn 4 .int 0 [.ref h] ([(h, .inr (8, fs))] ++ Z) ((-2147483648)) ([(h, .inr (8, fs))] ++ Z) := by
  refine hq_bI (by decide) (Nat.le_of_ble_eq_true rfl) (fun _ _ _ => rfl) ?_
  intro p e s m args below meth c Q hx hb hml hts hown hA hK hN hret ls H locs hl hP hD hS
  have hown : s.vm.findClass "HashedLearnerModel" = some m.cls := hown
  have hl : lv_has ls 4 [(0, .ref h)] := hl
  refine lv_aload_n hx hb d_M_learn_0 rfl (lv_at hl 0 rfl) ?_
  refine va_get (D := D) (ci := 8) (v := .int (nI rg)) (C := R_M) (T := F_M) (N := 34) hx hb hts uw_M hown hK hP 0 rfl rfl 7 (by decide) (hts _ fl_M_222) (fun _ h9 => h9) hf7 d_M_learn_1 ?_
  refine lv_if_ne (tgt := 10) hx hb d_M_learn_4 rfl (fun c4 => ?_) (fun c4 => ?_)
  · -- 4 taken
    have c4 : ¬ rg = 0 := fun h => c4 ((nI_eq (a := rg) (b := 0) (by omega) (by omega)).mpr h)
    exact absurd hrg c4
  · -- 4 not taken
    have c4 : rg = 0 := (nI_eq (a := rg) (b := 0) (by omega) (by omega)).mp c4
    refine lv_ldc (v := (-2147483648)) hx hb hown (hts _ ki_M_247) d_M_learn_7 ?_
    exact hret (-2147483648) () H locs 9 ls d_M_learn_9 (by simp [c4]) hP hD hS
set_option maxHeartbeats 4000000 in
set_option maxRecDepth 100000 in
theorem c_M_terms_do (l : Launch) (D : va_G) (G : Nat → ClassId) (A : Nat → Prop) (Z : va_W) (h : Nat) (n : Nat) (kd : Int32) (ru : Int32) (ya : Nat) (sz : Nat) (ta : Nat) (la : Nat) (rg : Nat) (so : Nat) (bg : Bool) (nc : Nat) (lfa : Nat) (rta : Nat) (lb : Int32) (wo : Int32) (ft : Nat) (fha : Nat) (fva : Nat) (fla : Nat) (sp : Nat) (tc : Nat) (tha : Nat) (tva : Nat) (wa : Nat) (sa : Nat) (ca : Nat) (va : Nat) (tt : Int64) (ld : Int32) (pt : Int64) (pw : Int64) (rc : Nat) (ra : Nat) (wn : Int32) (tx : Nat → Int32) (ln : Nat → Int32) (fh : Nat → Int32) (fv : Nat → Int32) (fl : Nat → Int32) (th : Nat → Int32) (tv : Nat → Int32) (cl : Nat → Int32) (cr : Nat → Int32) (len : Nat) (t : Nat → Int32) (lab9 : Bool) (lb9 : Int32) (im9 : Int32) (L9 : List (Int32 × Int32 × Int32)) (hrg : 0 < rg) (hrg4 : rg ≤ 4) (hln : ln 0 = nI len) (hlen : len ≤ 100) (hag : ∀ q, q < len → tx (100 * 0 + q) = t q) (ht : ∀ q, q < len → hq_ch (t q)) (hpar : hq_par t len = some (lab9, lb9, im9, L9)) (hnc : nc ≤ 3) (hT : (hq_TL L9 cl cr nc).length ≤ 120) : hq_MI l D G A y_M_terms b_M_terms 1 .int 7 0 0 [.ref h] ([hq_o8 h (nI n) kd ru ya (nI sz) ta la (nI rg) (nI so) (hq_z bg) (nI nc) lfa rta lb wo (nI ft) fha fva fla (nI sp) (nI tc) tha tva wa sa ca va tt ld pt pw (nI rc) ra wn, hq_ai la (G 0) 20 ln, hq_ai ta (G 0) 2000 tx, hq_ai fha (G 0) 12 fh, hq_ai fva (G 0) 12 fv, hq_ai fla (G 0) 12 fl, hq_ai lfa (G 0) 3 cl, hq_ai rta (G 0) 3 cr, hq_ai tha (G 0) 120 th, hq_ai tva (G 0) 120 tv] ++ Z) (fun r (u : Nat × (Nat → Int32) × (Nat → Int32) × (Nat → Int32)) => r = nI (hq_TL L9 cl cr nc).length ∧ hq_rep L9 u.2.1 u.2.2.1 u.2.2.2 L9.length) (fun (u : Nat × (Nat → Int32) × (Nat → Int32) × (Nat → Int32)) => [hq_o8 h (nI n) kd ru ya (nI sz) ta la (nI rg) (nI so) (hq_z bg) (nI nc) lfa rta (if lab9 = true then lb9 else 1000000) im9 (nI L9.length) fha fva fla (nI u.1) (nI ((hq_TL L9 cl cr nc).length)) tha tva wa sa ca va tt ld pt pw (nI rc) ra wn, hq_ai la (G 0) 20 ln, hq_ai ta (G 0) 2000 tx, hq_ai fha (G 0) 12 u.2.1, hq_ai fva (G 0) 12 u.2.2.1, hq_ai fla (G 0) 12 u.2.2.2, hq_ai lfa (G 0) 3 cl, hq_ai rta (G 0) 3 cr, hq_ai tha (G 0) 120 (hq_wr upd th 0 ((hq_TL L9 cl cr nc).map Prod.fst)), hq_ai tva (G 0) 120 (hq_wr upd tv 0 ((hq_TL L9 cl cr nc).map Prod.snd))] ++ Z) := by
  refine hq_bI (by decide) (Nat.le_of_ble_eq_true rfl) (fun _ _ _ => rfl) ?_
  intro p e s m args below meth c Q hx hb hml hts hown hA hK hN hret ls H locs hl hP hD hS
  have hown : s.vm.findClass "HashedLearnerModel" = some m.cls := hown
  have hl : lv_has ls 1 [(0, .ref h)] := hl
  refine lv_aload_n hx hb d_M_terms_0 rfl (lv_at hl 0 rfl) ?_
  refine va_get (D := D) (ci := 8) (v := .int (nI rg)) (C := R_M) (T := F_M) (N := 34) hx hb hts uw_M hown hK hP 0 rfl rfl 7 (by decide) (hts _ fl_M_222) (fun _ h9 => h9) rfl d_M_terms_1 ?_
  refine lv_if_ne (tgt := 9) hx hb d_M_terms_4 rfl (fun c4 => ?_) (fun c4 => ?_)
  · -- 4 taken
    have c4 : ¬ rg = 0 := fun h => c4 ((nI_eq (a := rg) (b := 0) (by omega) (by omega)).mpr h)
    refine lv_aload_n hx hb d_M_terms_9 rfl (lv_at hl 0 rfl) ?_
    refine lv_iconst (v := nI 0) hx hb d_M_terms_10 (by decide) ?_
    have hPc : va_P D hq_cl ([hq_o8 h (nI n) kd ru ya (nI sz) ta la (nI rg) (nI so) (hq_z bg) (nI nc) lfa rta lb wo (nI ft) fha fva fla (nI sp) (nI tc) tha tva wa sa ca va tt ld pt pw (nI rc) ra wn, hq_ai la (G 0) 20 ln, hq_ai ta (G 0) 2000 tx, hq_ai fha (G 0) 12 fh, hq_ai fva (G 0) 12 fv, hq_ai fla (G 0) 12 fl, hq_ai lfa (G 0) 3 cl, hq_ai rta (G 0) 3 cr, hq_ai tha (G 0) 120 th, hq_ai tva (G 0) 120 tv] ++ Z) H := hP
    have hDc : va_D A ([hq_o8 h (nI n) kd ru ya (nI sz) ta la (nI rg) (nI so) (hq_z bg) (nI nc) lfa rta lb wo (nI ft) fha fva fla (nI sp) (nI tc) tha tva wa sa ca va tt ld pt pw (nI rc) ra wn, hq_ai la (G 0) 20 ln, hq_ai ta (G 0) 2000 tx, hq_ai fha (G 0) 12 fh, hq_ai fva (G 0) 12 fv, hq_ai fla (G 0) 12 fl, hq_ai lfa (G 0) 3 cl, hq_ai rta (G 0) 3 cr, hq_ai tha (G 0) 120 th, hq_ai tva (G 0) 120 tv] ++ Z) := hD
    refine hq_v (hq_rV (As := [.int (nI 0)]) (rest := []) hx hb hml hown hts (c_M_spread l D G A Z h n kd ru ya sz ta la rg so bg nc lfa rta lb wo ft fha fva fla sp tc tha tva wa sa ca va tt ld pt pw rc ra wn tx ln fh fv fl th tv cl cr 0 len t lab9 lb9 im9 L9 (by first | assumption | omega) (by first | assumption | omega) (by first | assumption | omega) (by first | assumption | omega) (by first | assumption | omega) (by first | assumption | omega) (by first | assumption | omega) (by first | assumption | omega)) yy_M_spread lk_M_248 hA hK hN hS hPc hDc 0 8 rfl rfl rfl hl.1 rfl (Nat.le_of_ble_eq_true rfl) d_M_terms_11 ⟨by decide, by decide⟩ ⟨by decide, by decide⟩) hS (fun u11 H locs w11 hP hD hS => ?_)
    have hP : va_P D hq_cl ([hq_o8 h (nI n) kd ru ya (nI sz) ta la (nI rg) (nI so) (hq_z bg) (nI nc) lfa rta (if lab9 = true then lb9 else 1000000) im9 (nI L9.length) fha fva fla (nI u11.1) (nI ((hq_TL L9 cl cr nc).length)) tha tva wa sa ca va tt ld pt pw (nI rc) ra wn, hq_ai la (G 0) 20 ln, hq_ai ta (G 0) 2000 tx, hq_ai fha (G 0) 12 u11.2.1, hq_ai fva (G 0) 12 u11.2.2.1, hq_ai fla (G 0) 12 u11.2.2.2, hq_ai lfa (G 0) 3 cl, hq_ai rta (G 0) 3 cr, hq_ai tha (G 0) 120 (hq_wr upd th 0 ((hq_TL L9 cl cr nc).map Prod.fst)), hq_ai tva (G 0) 120 (hq_wr upd tv 0 ((hq_TL L9 cl cr nc).map Prod.snd))] ++ Z) H := hP
    have hD : va_D A ([hq_o8 h (nI n) kd ru ya (nI sz) ta la (nI rg) (nI so) (hq_z bg) (nI nc) lfa rta (if lab9 = true then lb9 else 1000000) im9 (nI L9.length) fha fva fla (nI u11.1) (nI ((hq_TL L9 cl cr nc).length)) tha tva wa sa ca va tt ld pt pw (nI rc) ra wn, hq_ai la (G 0) 20 ln, hq_ai ta (G 0) 2000 tx, hq_ai fha (G 0) 12 u11.2.1, hq_ai fva (G 0) 12 u11.2.2.1, hq_ai fla (G 0) 12 u11.2.2.2, hq_ai lfa (G 0) 3 cl, hq_ai rta (G 0) 3 cr, hq_ai tha (G 0) 120 (hq_wr upd th 0 ((hq_TL L9 cl cr nc).map Prod.fst)), hq_ai tva (G 0) 120 (hq_wr upd tv 0 ((hq_TL L9 cl cr nc).map Prod.snd))] ++ Z) := hD
    obtain ⟨sp2, fh2, fv2, fl2⟩ := u11
    have hP : va_P D hq_cl ([hq_o8 h (nI n) kd ru ya (nI sz) ta la (nI rg) (nI so) (hq_z bg) (nI nc) lfa rta (if lab9 = true then lb9 else 1000000) im9 (nI L9.length) fha fva fla (nI sp2) (nI ((hq_TL L9 cl cr nc).length)) tha tva wa sa ca va tt ld pt pw (nI rc) ra wn, hq_ai la (G 0) 20 ln, hq_ai ta (G 0) 2000 tx, hq_ai fha (G 0) 12 fh2, hq_ai fva (G 0) 12 fv2, hq_ai fla (G 0) 12 fl2, hq_ai lfa (G 0) 3 cl, hq_ai rta (G 0) 3 cr, hq_ai tha (G 0) 120 (hq_wr upd th 0 ((hq_TL L9 cl cr nc).map Prod.fst)), hq_ai tva (G 0) 120 (hq_wr upd tv 0 ((hq_TL L9 cl cr nc).map Prod.snd))] ++ Z) H := hP
    have hD : va_D A ([hq_o8 h (nI n) kd ru ya (nI sz) ta la (nI rg) (nI so) (hq_z bg) (nI nc) lfa rta (if lab9 = true then lb9 else 1000000) im9 (nI L9.length) fha fva fla (nI sp2) (nI ((hq_TL L9 cl cr nc).length)) tha tva wa sa ca va tt ld pt pw (nI rc) ra wn, hq_ai la (G 0) 20 ln, hq_ai ta (G 0) 2000 tx, hq_ai fha (G 0) 12 fh2, hq_ai fva (G 0) 12 fv2, hq_ai fla (G 0) 12 fl2, hq_ai lfa (G 0) 3 cl, hq_ai rta (G 0) 3 cr, hq_ai tha (G 0) 120 (hq_wr upd th 0 ((hq_TL L9 cl cr nc).map Prod.fst)), hq_ai tva (G 0) 120 (hq_wr upd tv 0 ((hq_TL L9 cl cr nc).map Prod.snd))] ++ Z) := hD
    refine lv_aload_n hx hb d_M_terms_14 rfl (lv_at hl 0 rfl) ?_
    refine va_get (D := D) (ci := 8) (v := .int (nI ((hq_TL L9 cl cr nc).length))) (C := R_M) (T := F_M) (N := 34) hx hb hts uw_M hown hK hP 0 rfl rfl 20 (by decide) (hts _ fl_M_161) (fun _ h9 => h9) rfl d_M_terms_15 ?_
    exact hret (nI ((hq_TL L9 cl cr nc).length)) (sp2, fh2, fv2, fl2) H locs 18 ls d_M_terms_18 (⟨rfl, w11⟩) hP hD hS
  · -- 4 not taken
    have c4 : rg = 0 := (nI_eq (a := rg) (b := 0) (by omega) (by omega)).mp c4
    exact absurd c4 (by omega)
set_option maxHeartbeats 4000000 in
set_option maxRecDepth 100000 in
theorem c_M_peek_do (l : Launch) (D : va_G) (G : Nat → ClassId) (A : Nat → Prop) (Z : va_W) (h : Nat) (n : Nat) (kd : Int32) (ru : Int32) (ya : Nat) (sz : Nat) (ta : Nat) (la : Nat) (rg : Nat) (so : Nat) (bg : Bool) (nc : Nat) (lfa : Nat) (rta : Nat) (lb : Int32) (wo : Int32) (ft : Nat) (fha : Nat) (fva : Nat) (fla : Nat) (sp : Nat) (tc : Nat) (tha : Nat) (tva : Nat) (wa : Nat) (sa : Nat) (ca : Nat) (va : Nat) (tt : Int64) (ld : Int32) (pt : Int64) (pw : Int64) (rc : Nat) (ra : Nat) (wn : Int32) (tx : Nat → Int32) (ln : Nat → Int32) (fh : Nat → Int32) (fv : Nat → Int32) (fl : Nat → Int32) (th : Nat → Int32) (tv : Nat → Int32) (cl : Nat → Int32) (cr : Nat → Int32) (len : Nat) (t : Nat → Int32) (lab9 : Bool) (lb9 : Int32) (im9 : Int32) (L9 : List (Int32 × Int32 × Int32)) (wt : Nat → Int64) (su : Nat → Int64) (sc : Nat → Int64) (hrg : 0 < rg) (hrg4 : rg ≤ 4) (hln : ln 0 = nI len) (hlen : len ≤ 100) (hag : ∀ q, q < len → tx (100 * 0 + q) = t q) (ht : ∀ q, q < len → hq_ch (t q)) (hpar : hq_par t len = some (lab9, lb9, im9, L9)) (hnc : nc ≤ 3) (hT : (hq_TL L9 cl cr nc).length ≤ 120) (hn : hq_pow n) : hq_MI l D G A y_M_peek b_M_peek 1 .int 7 0 0 [.ref h] ([hq_o8 h (nI n) kd ru ya (nI sz) ta la (nI rg) (nI so) (hq_z bg) (nI nc) lfa rta lb wo (nI ft) fha fva fla (nI sp) (nI tc) tha tva wa sa ca va tt ld pt pw (nI rc) ra wn, hq_ai la (G 0) 20 ln, hq_ai ta (G 0) 2000 tx, hq_ai fha (G 0) 12 fh, hq_ai fva (G 0) 12 fv, hq_ai fla (G 0) 12 fl, hq_ai lfa (G 0) 3 cl, hq_ai rta (G 0) 3 cr, hq_ai tha (G 0) 120 th, hq_ai tva (G 0) 120 tv, hq_al wa (G 1) 96 wt, hq_al sa (G 1) 96 su, hq_al ca (G 1) 96 sc] ++ Z) (fun r (u : Nat × (Nat → Int32) × (Nat → Int32) × (Nat → Int32)) => r = Int64.toInt32 (hq_prdML wt n (hq_TL L9 cl cr nc))) (fun (u : Nat × (Nat → Int32) × (Nat → Int32) × (Nat → Int32)) => [hq_o8 h (nI n) kd ru ya (nI sz) ta la (nI rg) (nI so) (hq_z bg) (nI nc) lfa rta (if lab9 = true then lb9 else 1000000) im9 (nI L9.length) fha fva fla (nI u.1) (nI ((hq_TL L9 cl cr nc).length)) tha tva wa sa ca va tt ld pt pw (nI rc) ra wn, hq_ai la (G 0) 20 ln, hq_ai ta (G 0) 2000 tx, hq_ai fha (G 0) 12 u.2.1, hq_ai fva (G 0) 12 u.2.2.1, hq_ai fla (G 0) 12 u.2.2.2, hq_ai lfa (G 0) 3 cl, hq_ai rta (G 0) 3 cr, hq_ai tha (G 0) 120 (hq_wr upd th 0 ((hq_TL L9 cl cr nc).map Prod.fst)), hq_ai tva (G 0) 120 (hq_wr upd tv 0 ((hq_TL L9 cl cr nc).map Prod.snd)), hq_al wa (G 1) 96 wt, hq_al sa (G 1) 96 su, hq_al ca (G 1) 96 sc] ++ Z) := by
  refine hq_bI (by decide) (Nat.le_of_ble_eq_true rfl) (fun _ _ _ => rfl) ?_
  intro p e s m args below meth c Q hx hb hml hts hown hA hK hN hret ls H locs hl hP hD hS
  have hown : s.vm.findClass "HashedLearnerModel" = some m.cls := hown
  have hl : lv_has ls 1 [(0, .ref h)] := hl
  refine lv_aload_n hx hb d_M_peek_0 rfl (lv_at hl 0 rfl) ?_
  refine va_get (D := D) (ci := 8) (v := .int (nI rg)) (C := R_M) (T := F_M) (N := 34) hx hb hts uw_M hown hK hP 0 rfl rfl 7 (by decide) (hts _ fl_M_222) (fun _ h9 => h9) rfl d_M_peek_1 ?_
  refine lv_if_ne (tgt := 10) hx hb d_M_peek_4 rfl (fun c4 => ?_) (fun c4 => ?_)
  · -- 4 taken
    have c4 : ¬ rg = 0 := fun h => c4 ((nI_eq (a := rg) (b := 0) (by omega) (by omega)).mpr h)
    refine lv_aload_n hx hb d_M_peek_10 rfl (lv_at hl 0 rfl) ?_
    refine lv_iconst (v := nI 0) hx hb d_M_peek_11 (by decide) ?_
    have hPc : va_P D hq_cl ([hq_o8 h (nI n) kd ru ya (nI sz) ta la (nI rg) (nI so) (hq_z bg) (nI nc) lfa rta lb wo (nI ft) fha fva fla (nI sp) (nI tc) tha tva wa sa ca va tt ld pt pw (nI rc) ra wn, hq_ai la (G 0) 20 ln, hq_ai ta (G 0) 2000 tx, hq_ai fha (G 0) 12 fh, hq_ai fva (G 0) 12 fv, hq_ai fla (G 0) 12 fl, hq_ai lfa (G 0) 3 cl, hq_ai rta (G 0) 3 cr, hq_ai tha (G 0) 120 th, hq_ai tva (G 0) 120 tv] ++ ([hq_al wa (G 1) 96 wt, hq_al sa (G 1) 96 su, hq_al ca (G 1) 96 sc] ++ Z)) H := hP
    have hDc : va_D A ([hq_o8 h (nI n) kd ru ya (nI sz) ta la (nI rg) (nI so) (hq_z bg) (nI nc) lfa rta lb wo (nI ft) fha fva fla (nI sp) (nI tc) tha tva wa sa ca va tt ld pt pw (nI rc) ra wn, hq_ai la (G 0) 20 ln, hq_ai ta (G 0) 2000 tx, hq_ai fha (G 0) 12 fh, hq_ai fva (G 0) 12 fv, hq_ai fla (G 0) 12 fl, hq_ai lfa (G 0) 3 cl, hq_ai rta (G 0) 3 cr, hq_ai tha (G 0) 120 th, hq_ai tva (G 0) 120 tv] ++ ([hq_al wa (G 1) 96 wt, hq_al sa (G 1) 96 su, hq_al ca (G 1) 96 sc] ++ Z)) := hD
    refine hq_v (hq_rV (As := [.int (nI 0)]) (rest := []) hx hb hml hown hts (c_M_spread l D G A ([hq_al wa (G 1) 96 wt, hq_al sa (G 1) 96 su, hq_al ca (G 1) 96 sc] ++ Z) h n kd ru ya sz ta la rg so bg nc lfa rta lb wo ft fha fva fla sp tc tha tva wa sa ca va tt ld pt pw rc ra wn tx ln fh fv fl th tv cl cr 0 len t lab9 lb9 im9 L9 (by first | assumption | omega) (by first | assumption | omega) (by first | assumption | omega) (by first | assumption | omega) (by first | assumption | omega) (by first | assumption | omega) (by first | assumption | omega) (by first | assumption | omega)) yy_M_spread lk_M_248 hA hK hN hS hPc hDc 0 8 rfl rfl rfl hl.1 rfl (Nat.le_of_ble_eq_true rfl) d_M_peek_12 ⟨by decide, by decide⟩ ⟨by decide, by decide⟩) hS (fun u12 H locs w12 hP hD hS => ?_)
    have hP : va_P D hq_cl ([hq_o8 h (nI n) kd ru ya (nI sz) ta la (nI rg) (nI so) (hq_z bg) (nI nc) lfa rta (if lab9 = true then lb9 else 1000000) im9 (nI L9.length) fha fva fla (nI u12.1) (nI ((hq_TL L9 cl cr nc).length)) tha tva wa sa ca va tt ld pt pw (nI rc) ra wn, hq_ai la (G 0) 20 ln, hq_ai ta (G 0) 2000 tx, hq_ai fha (G 0) 12 u12.2.1, hq_ai fva (G 0) 12 u12.2.2.1, hq_ai fla (G 0) 12 u12.2.2.2, hq_ai lfa (G 0) 3 cl, hq_ai rta (G 0) 3 cr, hq_ai tha (G 0) 120 (hq_wr upd th 0 ((hq_TL L9 cl cr nc).map Prod.fst)), hq_ai tva (G 0) 120 (hq_wr upd tv 0 ((hq_TL L9 cl cr nc).map Prod.snd)), hq_al wa (G 1) 96 wt, hq_al sa (G 1) 96 su, hq_al ca (G 1) 96 sc] ++ Z) H := hP
    have hD : va_D A ([hq_o8 h (nI n) kd ru ya (nI sz) ta la (nI rg) (nI so) (hq_z bg) (nI nc) lfa rta (if lab9 = true then lb9 else 1000000) im9 (nI L9.length) fha fva fla (nI u12.1) (nI ((hq_TL L9 cl cr nc).length)) tha tva wa sa ca va tt ld pt pw (nI rc) ra wn, hq_ai la (G 0) 20 ln, hq_ai ta (G 0) 2000 tx, hq_ai fha (G 0) 12 u12.2.1, hq_ai fva (G 0) 12 u12.2.2.1, hq_ai fla (G 0) 12 u12.2.2.2, hq_ai lfa (G 0) 3 cl, hq_ai rta (G 0) 3 cr, hq_ai tha (G 0) 120 (hq_wr upd th 0 ((hq_TL L9 cl cr nc).map Prod.fst)), hq_ai tva (G 0) 120 (hq_wr upd tv 0 ((hq_TL L9 cl cr nc).map Prod.snd)), hq_al wa (G 1) 96 wt, hq_al sa (G 1) 96 su, hq_al ca (G 1) 96 sc] ++ Z) := hD
    obtain ⟨sp2, fh2, fv2, fl2⟩ := u12
    have hP : va_P D hq_cl ([hq_o8 h (nI n) kd ru ya (nI sz) ta la (nI rg) (nI so) (hq_z bg) (nI nc) lfa rta (if lab9 = true then lb9 else 1000000) im9 (nI L9.length) fha fva fla (nI sp2) (nI ((hq_TL L9 cl cr nc).length)) tha tva wa sa ca va tt ld pt pw (nI rc) ra wn, hq_ai la (G 0) 20 ln, hq_ai ta (G 0) 2000 tx, hq_ai fha (G 0) 12 fh2, hq_ai fva (G 0) 12 fv2, hq_ai fla (G 0) 12 fl2, hq_ai lfa (G 0) 3 cl, hq_ai rta (G 0) 3 cr, hq_ai tha (G 0) 120 (hq_wr upd th 0 ((hq_TL L9 cl cr nc).map Prod.fst)), hq_ai tva (G 0) 120 (hq_wr upd tv 0 ((hq_TL L9 cl cr nc).map Prod.snd)), hq_al wa (G 1) 96 wt, hq_al sa (G 1) 96 su, hq_al ca (G 1) 96 sc] ++ Z) H := hP
    have hD : va_D A ([hq_o8 h (nI n) kd ru ya (nI sz) ta la (nI rg) (nI so) (hq_z bg) (nI nc) lfa rta (if lab9 = true then lb9 else 1000000) im9 (nI L9.length) fha fva fla (nI sp2) (nI ((hq_TL L9 cl cr nc).length)) tha tva wa sa ca va tt ld pt pw (nI rc) ra wn, hq_ai la (G 0) 20 ln, hq_ai ta (G 0) 2000 tx, hq_ai fha (G 0) 12 fh2, hq_ai fva (G 0) 12 fv2, hq_ai fla (G 0) 12 fl2, hq_ai lfa (G 0) 3 cl, hq_ai rta (G 0) 3 cr, hq_ai tha (G 0) 120 (hq_wr upd th 0 ((hq_TL L9 cl cr nc).map Prod.fst)), hq_ai tva (G 0) 120 (hq_wr upd tv 0 ((hq_TL L9 cl cr nc).map Prod.snd)), hq_al wa (G 1) 96 wt, hq_al sa (G 1) 96 su, hq_al ca (G 1) 96 sc] ++ Z) := hD
    refine lv_aload_n hx hb d_M_peek_15 rfl (lv_at hl 0 rfl) ?_
    have hPc : va_P D hq_cl ([hq_o8 h (nI n) kd ru ya (nI sz) ta la (nI rg) (nI so) (hq_z bg) (nI nc) lfa rta (if lab9 = true then lb9 else 1000000) im9 (nI L9.length) fha fva fla (nI sp2) (nI ((hq_TL L9 cl cr nc).length)) tha tva wa sa ca va tt ld pt pw (nI rc) ra wn, hq_ai tha (G 0) 120 (hq_wr upd th 0 ((hq_TL L9 cl cr nc).map Prod.fst)), hq_ai tva (G 0) 120 (hq_wr upd tv 0 ((hq_TL L9 cl cr nc).map Prod.snd)), hq_al wa (G 1) 96 wt, hq_al sa (G 1) 96 su, hq_al ca (G 1) 96 sc] ++ ([hq_ai la (G 0) 20 ln, hq_ai ta (G 0) 2000 tx, hq_ai fha (G 0) 12 fh2, hq_ai fva (G 0) 12 fv2, hq_ai fla (G 0) 12 fl2, hq_ai lfa (G 0) 3 cl, hq_ai rta (G 0) 3 cr] ++ Z)) H := va_P.part (cx := [hq_o8 h (nI n) kd ru ya (nI sz) ta la (nI rg) (nI so) (hq_z bg) (nI nc) lfa rta (if lab9 = true then lb9 else 1000000) im9 (nI L9.length) fha fva fla (nI sp2) (nI ((hq_TL L9 cl cr nc).length)) tha tva wa sa ca va tt ld pt pw (nI rc) ra wn, hq_ai tha (G 0) 120 (hq_wr upd th 0 ((hq_TL L9 cl cr nc).map Prod.fst)), hq_ai tva (G 0) 120 (hq_wr upd tv 0 ((hq_TL L9 cl cr nc).map Prod.snd)), hq_al wa (G 1) 96 wt, hq_al sa (G 1) 96 su, hq_al ca (G 1) 96 sc, hq_ai la (G 0) 20 ln, hq_ai ta (G 0) 2000 tx, hq_ai fha (G 0) 12 fh2, hq_ai fva (G 0) 12 fv2, hq_ai fla (G 0) 12 fl2, hq_ai lfa (G 0) 3 cl, hq_ai rta (G 0) 3 cr]) hP [0, 8, 9, 10, 11, 12, 1, 2, 3, 4, 5, 6, 7] rfl
    have hDc : va_D A ([hq_o8 h (nI n) kd ru ya (nI sz) ta la (nI rg) (nI so) (hq_z bg) (nI nc) lfa rta (if lab9 = true then lb9 else 1000000) im9 (nI L9.length) fha fva fla (nI sp2) (nI ((hq_TL L9 cl cr nc).length)) tha tva wa sa ca va tt ld pt pw (nI rc) ra wn, hq_ai tha (G 0) 120 (hq_wr upd th 0 ((hq_TL L9 cl cr nc).map Prod.fst)), hq_ai tva (G 0) 120 (hq_wr upd tv 0 ((hq_TL L9 cl cr nc).map Prod.snd)), hq_al wa (G 1) 96 wt, hq_al sa (G 1) 96 su, hq_al ca (G 1) 96 sc] ++ ([hq_ai la (G 0) 20 ln, hq_ai ta (G 0) 2000 tx, hq_ai fha (G 0) 12 fh2, hq_ai fva (G 0) 12 fv2, hq_ai fla (G 0) 12 fl2, hq_ai lfa (G 0) 3 cl, hq_ai rta (G 0) 3 cr] ++ Z)) := va_D.part (cx := [hq_o8 h (nI n) kd ru ya (nI sz) ta la (nI rg) (nI so) (hq_z bg) (nI nc) lfa rta (if lab9 = true then lb9 else 1000000) im9 (nI L9.length) fha fva fla (nI sp2) (nI ((hq_TL L9 cl cr nc).length)) tha tva wa sa ca va tt ld pt pw (nI rc) ra wn, hq_ai tha (G 0) 120 (hq_wr upd th 0 ((hq_TL L9 cl cr nc).map Prod.fst)), hq_ai tva (G 0) 120 (hq_wr upd tv 0 ((hq_TL L9 cl cr nc).map Prod.snd)), hq_al wa (G 1) 96 wt, hq_al sa (G 1) 96 su, hq_al ca (G 1) 96 sc, hq_ai la (G 0) 20 ln, hq_ai ta (G 0) 2000 tx, hq_ai fha (G 0) 12 fh2, hq_ai fva (G 0) 12 fv2, hq_ai fla (G 0) 12 fl2, hq_ai lfa (G 0) 3 cl, hq_ai rta (G 0) 3 cr]) hD [0, 8, 9, 10, 11, 12, 1, 2, 3, 4, 5, 6, 7] (by decide) rfl
    refine hq_lF (hq_rV (As := []) (rest := []) hx hb hml hown hts (c_M_predict l D G A ([hq_ai la (G 0) 20 ln, hq_ai ta (G 0) 2000 tx, hq_ai fha (G 0) 12 fh2, hq_ai fva (G 0) 12 fv2, hq_ai fla (G 0) 12 fl2, hq_ai lfa (G 0) 3 cl, hq_ai rta (G 0) 3 cr] ++ Z) h n kd ru ya sz ta la rg so bg nc lfa rta (if lab9 = true then lb9 else 1000000) im9 L9.length fha fva fla sp2 ((hq_TL L9 cl cr nc).length) tha tva wa sa ca va tt ld pt pw rc ra wn (hq_wr upd th 0 ((hq_TL L9 cl cr nc).map Prod.fst)) (hq_wr upd tv 0 ((hq_TL L9 cl cr nc).map Prod.snd)) wt su sc (by first | assumption | omega) (by first | assumption | omega)) yy_M_predict lk_M_208 hA hK hN hS hPc hDc 0 8 rfl rfl rfl hl.1 rfl (Nat.le_of_ble_eq_true rfl) d_M_peek_16 ⟨by decide, by decide⟩ ⟨by decide, by decide⟩) hS (fun H locs hP hD hS => ?_)
    have hP : va_P D hq_cl ([hq_o8 h (nI n) kd ru ya (nI sz) ta la (nI rg) (nI so) (hq_z bg) (nI nc) lfa rta (if lab9 = true then lb9 else 1000000) im9 (nI L9.length) fha fva fla (nI sp2) (nI ((hq_TL L9 cl cr nc).length)) tha tva wa sa ca va tt ld pt pw (nI rc) ra wn, hq_ai tha (G 0) 120 (hq_wr upd th 0 ((hq_TL L9 cl cr nc).map Prod.fst)), hq_ai tva (G 0) 120 (hq_wr upd tv 0 ((hq_TL L9 cl cr nc).map Prod.snd)), hq_al wa (G 1) 96 wt, hq_al sa (G 1) 96 su, hq_al ca (G 1) 96 sc, hq_ai la (G 0) 20 ln, hq_ai ta (G 0) 2000 tx, hq_ai fha (G 0) 12 fh2, hq_ai fva (G 0) 12 fv2, hq_ai fla (G 0) 12 fl2, hq_ai lfa (G 0) 3 cl, hq_ai rta (G 0) 3 cr] ++ Z) H := hP
    have hD : va_D A ([hq_o8 h (nI n) kd ru ya (nI sz) ta la (nI rg) (nI so) (hq_z bg) (nI nc) lfa rta (if lab9 = true then lb9 else 1000000) im9 (nI L9.length) fha fva fla (nI sp2) (nI ((hq_TL L9 cl cr nc).length)) tha tva wa sa ca va tt ld pt pw (nI rc) ra wn, hq_ai tha (G 0) 120 (hq_wr upd th 0 ((hq_TL L9 cl cr nc).map Prod.fst)), hq_ai tva (G 0) 120 (hq_wr upd tv 0 ((hq_TL L9 cl cr nc).map Prod.snd)), hq_al wa (G 1) 96 wt, hq_al sa (G 1) 96 su, hq_al ca (G 1) 96 sc, hq_ai la (G 0) 20 ln, hq_ai ta (G 0) 2000 tx, hq_ai fha (G 0) 12 fh2, hq_ai fva (G 0) 12 fv2, hq_ai fla (G 0) 12 fl2, hq_ai lfa (G 0) 3 cl, hq_ai rta (G 0) 3 cr] ++ Z) := hD
    refine hq_topl (x' := hq_prdML wt n (hq_TL L9 cl cr nc)) (hq_prdM_L (hq_hold_wr _ _ _)) ?_
    refine lv_l2i (v := Int64.toInt32 (hq_prdML wt n (hq_TL L9 cl cr nc))) hx hb d_M_peek_19 rfl ?_
    have hP := va_P.part (cx := [hq_o8 h (nI n) kd ru ya (nI sz) ta la (nI rg) (nI so) (hq_z bg) (nI nc) lfa rta (if lab9 = true then lb9 else 1000000) im9 (nI L9.length) fha fva fla (nI sp2) (nI ((hq_TL L9 cl cr nc).length)) tha tva wa sa ca va tt ld pt pw (nI rc) ra wn, hq_ai la (G 0) 20 ln, hq_ai ta (G 0) 2000 tx, hq_ai fha (G 0) 12 fh2, hq_ai fva (G 0) 12 fv2, hq_ai fla (G 0) 12 fl2, hq_ai lfa (G 0) 3 cl, hq_ai rta (G 0) 3 cr, hq_ai tha (G 0) 120 (hq_wr upd th 0 ((hq_TL L9 cl cr nc).map Prod.fst)), hq_ai tva (G 0) 120 (hq_wr upd tv 0 ((hq_TL L9 cl cr nc).map Prod.snd)), hq_al wa (G 1) 96 wt, hq_al sa (G 1) 96 su, hq_al ca (G 1) 96 sc]) hP [0, 6, 7, 8, 9, 10, 11, 12, 1, 2, 3, 4, 5] rfl
    have hD := va_D.part (cx := [hq_o8 h (nI n) kd ru ya (nI sz) ta la (nI rg) (nI so) (hq_z bg) (nI nc) lfa rta (if lab9 = true then lb9 else 1000000) im9 (nI L9.length) fha fva fla (nI sp2) (nI ((hq_TL L9 cl cr nc).length)) tha tva wa sa ca va tt ld pt pw (nI rc) ra wn, hq_ai la (G 0) 20 ln, hq_ai ta (G 0) 2000 tx, hq_ai fha (G 0) 12 fh2, hq_ai fva (G 0) 12 fv2, hq_ai fla (G 0) 12 fl2, hq_ai lfa (G 0) 3 cl, hq_ai rta (G 0) 3 cr, hq_ai tha (G 0) 120 (hq_wr upd th 0 ((hq_TL L9 cl cr nc).map Prod.fst)), hq_ai tva (G 0) 120 (hq_wr upd tv 0 ((hq_TL L9 cl cr nc).map Prod.snd)), hq_al wa (G 1) 96 wt, hq_al sa (G 1) 96 su, hq_al ca (G 1) 96 sc]) hD [0, 6, 7, 8, 9, 10, 11, 12, 1, 2, 3, 4, 5] (by decide) rfl
    exact hret (Int64.toInt32 (hq_prdML wt n (hq_TL L9 cl cr nc))) (sp2, fh2, fv2, fl2) H locs 20 ls d_M_peek_20 (rfl) hP hD hS
  · -- 4 not taken
    have c4 : rg = 0 := (nI_eq (a := rg) (b := 0) (by omega) (by omega)).mp c4
    exact absurd c4 (by omega)
theorem d_M_index_0 : decode b_M_index 0 = .ok (.aload_n 0, 1) := by decide +kernel
theorem d_M_index_1 : decode b_M_index 1 = .ok (.invokevirtual 266, 3) := by decide +kernel
theorem d_M_index_4 : decode b_M_index 4 = .ok (.istore_n 2, 1) := by decide +kernel
theorem d_M_index_5 : decode b_M_index 5 = .ok (.iload_n 1, 1) := by decide +kernel
theorem d_M_index_6 : decode b_M_index 6 = .ok (.ifCond .lt (8), 3) := by decide +kernel
theorem d_M_index_9 : decode b_M_index 9 = .ok (.iload_n 1, 1) := by decide +kernel
theorem d_M_index_10 : decode b_M_index 10 = .ok (.iload_n 2, 1) := by decide +kernel
theorem d_M_index_11 : decode b_M_index 11 = .ok (.if_icmp .lt (7), 3) := by decide +kernel
theorem d_M_index_14 : decode b_M_index 14 = .ok (.iconst (-1), 1) := by decide +kernel
theorem d_M_index_15 : decode b_M_index 15 = .ok (.goto (8), 3) := by decide +kernel
theorem d_M_index_18 : decode b_M_index 18 = .ok (.aload_n 0, 1) := by decide +kernel
theorem d_M_index_19 : decode b_M_index 19 = .ok (.iload_n 1, 1) := by decide +kernel
theorem d_M_index_20 : decode b_M_index 20 = .ok (.invokevirtual 173, 3) := by decide +kernel
theorem d_M_index_23 : decode b_M_index 23 = .ok (.ireturn, 1) := by decide +kernel
set_option maxHeartbeats 4000000 in
set_option maxRecDepth 100000 in
theorem c_M_index_no (l : Launch) (D : va_G) (G : Nat → ClassId) (A : Nat → Prop) (Z : va_W) (h : Nat) (fs : List Value) (rg : Nat) (x : Int32) (hf7 : fs[7]? = some (.int (nI rg))) (hrg : rg = 0) : hq_FI l D G A y_M_index b_M_index 3 .int 1 [.ref h, .int x] ([(h, .inr (8, fs))] ++ Z) ((-1)) ([(h, .inr (8, fs))] ++ Z) := by
  refine hq_bI (by decide) (Nat.le_of_ble_eq_true rfl) (fun _ _ _ => rfl) ?_
  intro p e s m args below meth c Q hx hb hml hts hown hA hK hN hret ls H locs hl hP hD hS
  have hown : s.vm.findClass "HashedLearnerModel" = some m.cls := hown
  have hl : lv_has ls 3 [(0, .ref h), (1, .int x)] := hl
  refine lv_aload_n hx hb d_M_index_0 rfl (lv_at hl 0 rfl) ?_
  have hPc : va_P D hq_cl ([(h, .inr (8, fs))] ++ Z) H := hP
  have hDc : va_D A ([(h, .inr (8, fs))] ++ Z) := hD
  refine hq_iF (hq_rV (As := []) (rest := []) hx hb hml hown hts (c_M_terms_no l D G A Z h fs rg (by first | assumption | rfl) (by first | assumption | omega)) yy_M_terms lk_M_266 hA hK hN hS hPc hDc 0 8 rfl rfl rfl hl.1 rfl (Nat.le_of_ble_eq_true rfl) d_M_index_1 ⟨by decide, by decide⟩ ⟨by decide, by decide⟩) hS (fun H locs hP hD hS => ?_)
  have hP : va_P D hq_cl ([(h, .inr (8, fs))] ++ Z) H := hP
  have hD : va_D A ([(h, .inr (8, fs))] ++ Z) := hD
  refine lv_istore_n (nL := 3) (lv' := [(2, .int (-1)), (0, .ref h), (1, .int x)]) hx hb d_M_index_4 rfl hl (by decide) rfl (fun ls hl => ?_)
  refine lv_iload_n hx hb d_M_index_5 rfl (lv_at hl 2 rfl) ?_
  refine lv_if_lt (tgt := 14) hx hb d_M_index_6 rfl (fun c6 => ?_) (fun c6 => ?_)
  · -- 6 taken
    have c6 : x < 0 := c6
    refine lv_iconst (v := (-1)) hx hb d_M_index_14 (by decide) ?_
    refine lv_goto (tgt := 23) hx hb d_M_index_15 rfl ?_
    exact hret (-1) () H locs 23 ls d_M_index_23 (by simp [c6]) hP hD hS
  · -- 6 not taken
    have c6 : ¬ x < 0 := c6
    refine lv_iload_n hx hb d_M_index_9 rfl (lv_at hl 2 rfl) ?_
    refine lv_iload_n hx hb d_M_index_10 rfl (lv_at hl 0 rfl) ?_
    refine lv_icmp_lt (tgt := 18) hx hb d_M_index_11 rfl (fun c11 => ?_) (fun c11 => ?_)
    · -- 11 taken
      have c11 : x < (-1) := c11
      exact absurd (Int32.lt_of_lt_of_le c11 (by decide)) c6
    · -- 11 not taken
      have c11 : ¬ x < (-1) := c11
      refine lv_iconst (v := (-1)) hx hb d_M_index_14 (by decide) ?_
      refine lv_goto (tgt := 23) hx hb d_M_index_15 rfl ?_
      exact hret (-1) () H locs 23 ls d_M_index_23 (by simp [c6, c11]) hP hD hS
set_option maxHeartbeats 4000000 in
set_option maxRecDepth 100000 in
theorem c_M_index_do (l : Launch) (D : va_G) (G : Nat → ClassId) (A : Nat → Prop) (Z : va_W) (h : Nat) (n : Nat) (kd : Int32) (ru : Int32) (ya : Nat) (sz : Nat) (ta : Nat) (la : Nat) (rg : Nat) (so : Nat) (bg : Bool) (nc : Nat) (lfa : Nat) (rta : Nat) (lb : Int32) (wo : Int32) (ft : Nat) (fha : Nat) (fva : Nat) (fla : Nat) (sp : Nat) (tc : Nat) (tha : Nat) (tva : Nat) (wa : Nat) (sa : Nat) (ca : Nat) (va : Nat) (tt : Int64) (ld : Int32) (pt : Int64) (pw : Int64) (rc : Nat) (ra : Nat) (wn : Int32) (tx : Nat → Int32) (ln : Nat → Int32) (fh : Nat → Int32) (fv : Nat → Int32) (fl : Nat → Int32) (th : Nat → Int32) (tv : Nat → Int32) (cl : Nat → Int32) (cr : Nat → Int32) (len : Nat) (t : Nat → Int32) (lab9 : Bool) (lb9 : Int32) (im9 : Int32) (L9 : List (Int32 × Int32 × Int32)) (x : Int32) (hrg : 0 < rg) (hrg4 : rg ≤ 4) (hln : ln 0 = nI len) (hlen : len ≤ 100) (hag : ∀ q, q < len → tx (100 * 0 + q) = t q) (ht : ∀ q, q < len → hq_ch (t q)) (hpar : hq_par t len = some (lab9, lb9, im9, L9)) (hnc : nc ≤ 3) (hT : (hq_TL L9 cl cr nc).length ≤ 120) (hn : hq_pow n) : hq_MI l D G A y_M_index b_M_index 3 .int 8 0 0 [.ref h, .int x] ([hq_o8 h (nI n) kd ru ya (nI sz) ta la (nI rg) (nI so) (hq_z bg) (nI nc) lfa rta lb wo (nI ft) fha fva fla (nI sp) (nI tc) tha tva wa sa ca va tt ld pt pw (nI rc) ra wn, hq_ai la (G 0) 20 ln, hq_ai ta (G 0) 2000 tx, hq_ai fha (G 0) 12 fh, hq_ai fva (G 0) 12 fv, hq_ai fla (G 0) 12 fl, hq_ai lfa (G 0) 3 cl, hq_ai rta (G 0) 3 cr, hq_ai tha (G 0) 120 th, hq_ai tva (G 0) 120 tv] ++ Z) (fun r (u : Nat × (Nat → Int32) × (Nat → Int32) × (Nat → Int32)) => r = hq_get (fun j => nI (hq_slot n ((hq_TL L9 cl cr nc).getD j (0, 0)).1)) ((hq_TL L9 cl cr nc).length) x (-1)) (fun (u : Nat × (Nat → Int32) × (Nat → Int32) × (Nat → Int32)) => [hq_o8 h (nI n) kd ru ya (nI sz) ta la (nI rg) (nI so) (hq_z bg) (nI nc) lfa rta (if lab9 = true then lb9 else 1000000) im9 (nI L9.length) fha fva fla (nI u.1) (nI ((hq_TL L9 cl cr nc).length)) tha tva wa sa ca va tt ld pt pw (nI rc) ra wn, hq_ai la (G 0) 20 ln, hq_ai ta (G 0) 2000 tx, hq_ai fha (G 0) 12 u.2.1, hq_ai fva (G 0) 12 u.2.2.1, hq_ai fla (G 0) 12 u.2.2.2, hq_ai lfa (G 0) 3 cl, hq_ai rta (G 0) 3 cr, hq_ai tha (G 0) 120 (hq_wr upd th 0 ((hq_TL L9 cl cr nc).map Prod.fst)), hq_ai tva (G 0) 120 (hq_wr upd tv 0 ((hq_TL L9 cl cr nc).map Prod.snd))] ++ Z) := by
  refine hq_bI (by decide) (Nat.le_of_ble_eq_true rfl) (fun _ _ _ => rfl) ?_
  intro p e s m args below meth c Q hx hb hml hts hown hA hK hN hret ls H locs hl hP hD hS
  have hown : s.vm.findClass "HashedLearnerModel" = some m.cls := hown
  have hl : lv_has ls 3 [(0, .ref h), (1, .int x)] := hl
  refine lv_aload_n hx hb d_M_index_0 rfl (lv_at hl 0 rfl) ?_
  have hPc : va_P D hq_cl ([hq_o8 h (nI n) kd ru ya (nI sz) ta la (nI rg) (nI so) (hq_z bg) (nI nc) lfa rta lb wo (nI ft) fha fva fla (nI sp) (nI tc) tha tva wa sa ca va tt ld pt pw (nI rc) ra wn, hq_ai la (G 0) 20 ln, hq_ai ta (G 0) 2000 tx, hq_ai fha (G 0) 12 fh, hq_ai fva (G 0) 12 fv, hq_ai fla (G 0) 12 fl, hq_ai lfa (G 0) 3 cl, hq_ai rta (G 0) 3 cr, hq_ai tha (G 0) 120 th, hq_ai tva (G 0) 120 tv] ++ Z) H := hP
  have hDc : va_D A ([hq_o8 h (nI n) kd ru ya (nI sz) ta la (nI rg) (nI so) (hq_z bg) (nI nc) lfa rta lb wo (nI ft) fha fva fla (nI sp) (nI tc) tha tva wa sa ca va tt ld pt pw (nI rc) ra wn, hq_ai la (G 0) 20 ln, hq_ai ta (G 0) 2000 tx, hq_ai fha (G 0) 12 fh, hq_ai fva (G 0) 12 fv, hq_ai fla (G 0) 12 fl, hq_ai lfa (G 0) 3 cl, hq_ai rta (G 0) 3 cr, hq_ai tha (G 0) 120 th, hq_ai tva (G 0) 120 tv] ++ Z) := hD
  refine hq_i (hq_rV (As := []) (rest := []) hx hb hml hown hts (c_M_terms_do l D G A Z h n kd ru ya sz ta la rg so bg nc lfa rta lb wo ft fha fva fla sp tc tha tva wa sa ca va tt ld pt pw rc ra wn tx ln fh fv fl th tv cl cr len t lab9 lb9 im9 L9 (by first | assumption | omega) (by first | assumption | omega) (by first | assumption | omega) (by first | assumption | omega) (by first | assumption | omega) (by first | assumption | omega) (by first | assumption | omega) (by first | assumption | omega) (by first | assumption | omega)) yy_M_terms lk_M_266 hA hK hN hS hPc hDc 0 8 rfl rfl rfl hl.1 rfl (Nat.le_of_ble_eq_true rfl) d_M_index_1 ⟨by decide, by decide⟩ ⟨by decide, by decide⟩) hS (fun r1 u1 H locs w1 hP hD hS => ?_)
  have hP : va_P D hq_cl ([hq_o8 h (nI n) kd ru ya (nI sz) ta la (nI rg) (nI so) (hq_z bg) (nI nc) lfa rta (if lab9 = true then lb9 else 1000000) im9 (nI L9.length) fha fva fla (nI u1.1) (nI ((hq_TL L9 cl cr nc).length)) tha tva wa sa ca va tt ld pt pw (nI rc) ra wn, hq_ai la (G 0) 20 ln, hq_ai ta (G 0) 2000 tx, hq_ai fha (G 0) 12 u1.2.1, hq_ai fva (G 0) 12 u1.2.2.1, hq_ai fla (G 0) 12 u1.2.2.2, hq_ai lfa (G 0) 3 cl, hq_ai rta (G 0) 3 cr, hq_ai tha (G 0) 120 (hq_wr upd th 0 ((hq_TL L9 cl cr nc).map Prod.fst)), hq_ai tva (G 0) 120 (hq_wr upd tv 0 ((hq_TL L9 cl cr nc).map Prod.snd))] ++ Z) H := hP
  have hD : va_D A ([hq_o8 h (nI n) kd ru ya (nI sz) ta la (nI rg) (nI so) (hq_z bg) (nI nc) lfa rta (if lab9 = true then lb9 else 1000000) im9 (nI L9.length) fha fva fla (nI u1.1) (nI ((hq_TL L9 cl cr nc).length)) tha tva wa sa ca va tt ld pt pw (nI rc) ra wn, hq_ai la (G 0) 20 ln, hq_ai ta (G 0) 2000 tx, hq_ai fha (G 0) 12 u1.2.1, hq_ai fva (G 0) 12 u1.2.2.1, hq_ai fla (G 0) 12 u1.2.2.2, hq_ai lfa (G 0) 3 cl, hq_ai rta (G 0) 3 cr, hq_ai tha (G 0) 120 (hq_wr upd th 0 ((hq_TL L9 cl cr nc).map Prod.fst)), hq_ai tva (G 0) 120 (hq_wr upd tv 0 ((hq_TL L9 cl cr nc).map Prod.snd))] ++ Z) := hD
  obtain ⟨sp2, fh2, fv2, fl2⟩ := u1
  obtain ⟨w1, hr2⟩ := w1
  subst w1
  have hk12 := (hq_par_ok hpar).1
  have hk12 : L9.length ≤ 12 := hk12
  have hP : va_P D hq_cl ([hq_o8 h (nI n) kd ru ya (nI sz) ta la (nI rg) (nI so) (hq_z bg) (nI nc) lfa rta (if lab9 = true then lb9 else 1000000) im9 (nI L9.length) fha fva fla (nI sp2) (nI ((hq_TL L9 cl cr nc).length)) tha tva wa sa ca va tt ld pt pw (nI rc) ra wn, hq_ai la (G 0) 20 ln, hq_ai ta (G 0) 2000 tx, hq_ai fha (G 0) 12 fh2, hq_ai fva (G 0) 12 fv2, hq_ai fla (G 0) 12 fl2, hq_ai lfa (G 0) 3 cl, hq_ai rta (G 0) 3 cr, hq_ai tha (G 0) 120 (hq_wr upd th 0 ((hq_TL L9 cl cr nc).map Prod.fst)), hq_ai tva (G 0) 120 (hq_wr upd tv 0 ((hq_TL L9 cl cr nc).map Prod.snd))] ++ Z) H := hP
  have hD : va_D A ([hq_o8 h (nI n) kd ru ya (nI sz) ta la (nI rg) (nI so) (hq_z bg) (nI nc) lfa rta (if lab9 = true then lb9 else 1000000) im9 (nI L9.length) fha fva fla (nI sp2) (nI ((hq_TL L9 cl cr nc).length)) tha tva wa sa ca va tt ld pt pw (nI rc) ra wn, hq_ai la (G 0) 20 ln, hq_ai ta (G 0) 2000 tx, hq_ai fha (G 0) 12 fh2, hq_ai fva (G 0) 12 fv2, hq_ai fla (G 0) 12 fl2, hq_ai lfa (G 0) 3 cl, hq_ai rta (G 0) 3 cr, hq_ai tha (G 0) 120 (hq_wr upd th 0 ((hq_TL L9 cl cr nc).map Prod.fst)), hq_ai tva (G 0) 120 (hq_wr upd tv 0 ((hq_TL L9 cl cr nc).map Prod.snd))] ++ Z) := hD
  refine lv_istore_n (nL := 3) (lv' := [(2, .int (nI ((hq_TL L9 cl cr nc).length))), (0, .ref h), (1, .int x)]) hx hb d_M_index_4 rfl hl (by decide) rfl (fun ls hl => ?_)
  refine lv_iload_n hx hb d_M_index_5 rfl (lv_at hl 2 rfl) ?_
  refine lv_if_lt (tgt := 14) hx hb d_M_index_6 rfl (fun c6 => ?_) (fun c6 => ?_)
  · -- 6 taken
    have c6 : x < 0 := c6
    refine lv_iconst (v := (-1)) hx hb d_M_index_14 (by decide) ?_
    refine lv_goto (tgt := 23) hx hb d_M_index_15 rfl ?_
    exact hret (-1) (sp2, fh2, fv2, fl2) H locs 23 ls d_M_index_23 (by rw [hq_get_neg c6]) hP hD hS
  · -- 6 not taken
    have c6 : ¬ x < 0 := c6
    refine lv_iload_n hx hb d_M_index_9 rfl (lv_at hl 2 rfl) ?_
    refine lv_iload_n hx hb d_M_index_10 rfl (lv_at hl 0 rfl) ?_
    refine lv_icmp_lt (tgt := 18) hx hb d_M_index_11 rfl (fun c11 => ?_) (fun c11 => ?_)
    · -- 11 taken
      have c11 : x < (nI ((hq_TL L9 cl cr nc).length)) := c11
      obtain ⟨j, hj, rfl⟩ := hq_ix' c6 c11 (by omega)
      · skip
        refine lv_aload_n hx hb d_M_index_18 rfl (lv_at hl 1 rfl) ?_
        refine lv_iload_n hx hb d_M_index_19 rfl (lv_at hl 2 rfl) ?_
        have hPc : va_P D hq_cl ([hq_o8 h (nI n) kd ru ya (nI sz) ta la (nI rg) (nI so) (hq_z bg) (nI nc) lfa rta (if lab9 = true then lb9 else 1000000) im9 (nI L9.length) fha fva fla (nI sp2) (nI ((hq_TL L9 cl cr nc).length)) tha tva wa sa ca va tt ld pt pw (nI rc) ra wn, hq_ai tha (G 0) 120 (hq_wr upd th 0 ((hq_TL L9 cl cr nc).map Prod.fst))] ++ ([hq_ai la (G 0) 20 ln, hq_ai ta (G 0) 2000 tx, hq_ai fha (G 0) 12 fh2, hq_ai fva (G 0) 12 fv2, hq_ai fla (G 0) 12 fl2, hq_ai lfa (G 0) 3 cl, hq_ai rta (G 0) 3 cr, hq_ai tva (G 0) 120 (hq_wr upd tv 0 ((hq_TL L9 cl cr nc).map Prod.snd))] ++ Z)) H := va_P.part (cx := [hq_o8 h (nI n) kd ru ya (nI sz) ta la (nI rg) (nI so) (hq_z bg) (nI nc) lfa rta (if lab9 = true then lb9 else 1000000) im9 (nI L9.length) fha fva fla (nI sp2) (nI ((hq_TL L9 cl cr nc).length)) tha tva wa sa ca va tt ld pt pw (nI rc) ra wn, hq_ai tha (G 0) 120 (hq_wr upd th 0 ((hq_TL L9 cl cr nc).map Prod.fst)), hq_ai la (G 0) 20 ln, hq_ai ta (G 0) 2000 tx, hq_ai fha (G 0) 12 fh2, hq_ai fva (G 0) 12 fv2, hq_ai fla (G 0) 12 fl2, hq_ai lfa (G 0) 3 cl, hq_ai rta (G 0) 3 cr, hq_ai tva (G 0) 120 (hq_wr upd tv 0 ((hq_TL L9 cl cr nc).map Prod.snd))]) hP [0, 8, 1, 2, 3, 4, 5, 6, 7, 9] rfl
        have hDc : va_D A ([hq_o8 h (nI n) kd ru ya (nI sz) ta la (nI rg) (nI so) (hq_z bg) (nI nc) lfa rta (if lab9 = true then lb9 else 1000000) im9 (nI L9.length) fha fva fla (nI sp2) (nI ((hq_TL L9 cl cr nc).length)) tha tva wa sa ca va tt ld pt pw (nI rc) ra wn, hq_ai tha (G 0) 120 (hq_wr upd th 0 ((hq_TL L9 cl cr nc).map Prod.fst))] ++ ([hq_ai la (G 0) 20 ln, hq_ai ta (G 0) 2000 tx, hq_ai fha (G 0) 12 fh2, hq_ai fva (G 0) 12 fv2, hq_ai fla (G 0) 12 fl2, hq_ai lfa (G 0) 3 cl, hq_ai rta (G 0) 3 cr, hq_ai tva (G 0) 120 (hq_wr upd tv 0 ((hq_TL L9 cl cr nc).map Prod.snd))] ++ Z)) := va_D.part (cx := [hq_o8 h (nI n) kd ru ya (nI sz) ta la (nI rg) (nI so) (hq_z bg) (nI nc) lfa rta (if lab9 = true then lb9 else 1000000) im9 (nI L9.length) fha fva fla (nI sp2) (nI ((hq_TL L9 cl cr nc).length)) tha tva wa sa ca va tt ld pt pw (nI rc) ra wn, hq_ai tha (G 0) 120 (hq_wr upd th 0 ((hq_TL L9 cl cr nc).map Prod.fst)), hq_ai la (G 0) 20 ln, hq_ai ta (G 0) 2000 tx, hq_ai fha (G 0) 12 fh2, hq_ai fva (G 0) 12 fv2, hq_ai fla (G 0) 12 fl2, hq_ai lfa (G 0) 3 cl, hq_ai rta (G 0) 3 cr, hq_ai tva (G 0) 120 (hq_wr upd tv 0 ((hq_TL L9 cl cr nc).map Prod.snd))]) hD [0, 8, 1, 2, 3, 4, 5, 6, 7, 9] (by decide) rfl
        refine hq_iF (hq_rV (As := [.int (nI j)]) (rest := []) hx hb hml hown hts (c_M_slot l D G A ([hq_ai la (G 0) 20 ln, hq_ai ta (G 0) 2000 tx, hq_ai fha (G 0) 12 fh2, hq_ai fva (G 0) 12 fv2, hq_ai fla (G 0) 12 fl2, hq_ai lfa (G 0) 3 cl, hq_ai rta (G 0) 3 cr, hq_ai tva (G 0) 120 (hq_wr upd tv 0 ((hq_TL L9 cl cr nc).map Prod.snd))] ++ Z) h ([.int (nI n), .int kd, .int ru, .ref ya, .int (nI sz), .ref ta, .ref la, .int (nI rg), .int (nI so), .int (hq_z bg), .int (nI nc), .ref lfa, .ref rta, .int (if lab9 = true then lb9 else 1000000), .int im9, .int (nI L9.length), .ref fha, .ref fva, .ref fla, .int (nI sp2), .int (nI ((hq_TL L9 cl cr nc).length)), .ref tha, .ref tva, .ref wa, .ref sa, .ref ca, .ref va, .long tt, .int ld, .long pt, .long pw, .int (nI rc), .ref ra, .int wn]) n tha (hq_wr upd th 0 ((hq_TL L9 cl cr nc).map Prod.fst)) j (by first | assumption | rfl) (by first | assumption | rfl) (by first | assumption | omega) (by first | assumption | omega)) yy_M_slot lk_M_173 hA hK hN hS hPc hDc 0 8 rfl rfl rfl hl.1 rfl (Nat.le_of_ble_eq_true rfl) d_M_index_20 ⟨by decide, by decide⟩ ⟨by decide, by decide⟩) hS (fun H locs hP hD hS => ?_)
        have hP : va_P D hq_cl ([hq_o8 h (nI n) kd ru ya (nI sz) ta la (nI rg) (nI so) (hq_z bg) (nI nc) lfa rta (if lab9 = true then lb9 else 1000000) im9 (nI L9.length) fha fva fla (nI sp2) (nI ((hq_TL L9 cl cr nc).length)) tha tva wa sa ca va tt ld pt pw (nI rc) ra wn, hq_ai tha (G 0) 120 (hq_wr upd th 0 ((hq_TL L9 cl cr nc).map Prod.fst)), hq_ai la (G 0) 20 ln, hq_ai ta (G 0) 2000 tx, hq_ai fha (G 0) 12 fh2, hq_ai fva (G 0) 12 fv2, hq_ai fla (G 0) 12 fl2, hq_ai lfa (G 0) 3 cl, hq_ai rta (G 0) 3 cr, hq_ai tva (G 0) 120 (hq_wr upd tv 0 ((hq_TL L9 cl cr nc).map Prod.snd))] ++ Z) H := hP
        have hD : va_D A ([hq_o8 h (nI n) kd ru ya (nI sz) ta la (nI rg) (nI so) (hq_z bg) (nI nc) lfa rta (if lab9 = true then lb9 else 1000000) im9 (nI L9.length) fha fva fla (nI sp2) (nI ((hq_TL L9 cl cr nc).length)) tha tva wa sa ca va tt ld pt pw (nI rc) ra wn, hq_ai tha (G 0) 120 (hq_wr upd th 0 ((hq_TL L9 cl cr nc).map Prod.fst)), hq_ai la (G 0) 20 ln, hq_ai ta (G 0) 2000 tx, hq_ai fha (G 0) 12 fh2, hq_ai fva (G 0) 12 fv2, hq_ai fla (G 0) 12 fl2, hq_ai lfa (G 0) 3 cl, hq_ai rta (G 0) 3 cr, hq_ai tva (G 0) 120 (hq_wr upd tv 0 ((hq_TL L9 cl cr nc).map Prod.snd))] ++ Z) := hD
        refine hq_topi (x' := nI (hq_slot n ((hq_TL L9 cl cr nc).getD j (0, 0)).1)) (by rw [(hq_hold_at (tv := tv) hj).1]) ?_
        have hP := va_P.part (cx := [hq_o8 h (nI n) kd ru ya (nI sz) ta la (nI rg) (nI so) (hq_z bg) (nI nc) lfa rta (if lab9 = true then lb9 else 1000000) im9 (nI L9.length) fha fva fla (nI sp2) (nI ((hq_TL L9 cl cr nc).length)) tha tva wa sa ca va tt ld pt pw (nI rc) ra wn, hq_ai la (G 0) 20 ln, hq_ai ta (G 0) 2000 tx, hq_ai fha (G 0) 12 fh2, hq_ai fva (G 0) 12 fv2, hq_ai fla (G 0) 12 fl2, hq_ai lfa (G 0) 3 cl, hq_ai rta (G 0) 3 cr, hq_ai tha (G 0) 120 (hq_wr upd th 0 ((hq_TL L9 cl cr nc).map Prod.fst)), hq_ai tva (G 0) 120 (hq_wr upd tv 0 ((hq_TL L9 cl cr nc).map Prod.snd))]) hP [0, 2, 3, 4, 5, 6, 7, 8, 1, 9] rfl
        have hD := va_D.part (cx := [hq_o8 h (nI n) kd ru ya (nI sz) ta la (nI rg) (nI so) (hq_z bg) (nI nc) lfa rta (if lab9 = true then lb9 else 1000000) im9 (nI L9.length) fha fva fla (nI sp2) (nI ((hq_TL L9 cl cr nc).length)) tha tva wa sa ca va tt ld pt pw (nI rc) ra wn, hq_ai la (G 0) 20 ln, hq_ai ta (G 0) 2000 tx, hq_ai fha (G 0) 12 fh2, hq_ai fva (G 0) 12 fv2, hq_ai fla (G 0) 12 fl2, hq_ai lfa (G 0) 3 cl, hq_ai rta (G 0) 3 cr, hq_ai tha (G 0) 120 (hq_wr upd th 0 ((hq_TL L9 cl cr nc).map Prod.fst)), hq_ai tva (G 0) 120 (hq_wr upd tv 0 ((hq_TL L9 cl cr nc).map Prod.snd))]) hD [0, 2, 3, 4, 5, 6, 7, 8, 1, 9] (by decide) rfl
        exact hret (nI (hq_slot n ((hq_TL L9 cl cr nc).getD j (0, 0)).1)) (sp2, fh2, fv2, fl2) H locs 23 ls d_M_index_23 (by rw [hq_get_in hj (by omega)]) hP hD hS
    · -- 11 not taken
      have c11 : ¬ x < (nI ((hq_TL L9 cl cr nc).length)) := c11
      refine lv_iconst (v := (-1)) hx hb d_M_index_14 (by decide) ?_
      refine lv_goto (tgt := 23) hx hb d_M_index_15 rfl ?_
      exact hret (-1) (sp2, fh2, fv2, fl2) H locs 23 ls d_M_index_23 (by rw [hq_get_big (Int32.not_lt.mp c11)]) hP hD hS
theorem d_M_value_0 : decode b_M_value 0 = .ok (.aload_n 0, 1) := by decide +kernel
theorem d_M_value_1 : decode b_M_value 1 = .ok (.invokevirtual 266, 3) := by decide +kernel
theorem d_M_value_4 : decode b_M_value 4 = .ok (.istore_n 2, 1) := by decide +kernel
theorem d_M_value_5 : decode b_M_value 5 = .ok (.iload_n 1, 1) := by decide +kernel
theorem d_M_value_6 : decode b_M_value 6 = .ok (.ifCond .lt (8), 3) := by decide +kernel
theorem d_M_value_9 : decode b_M_value 9 = .ok (.iload_n 1, 1) := by decide +kernel
theorem d_M_value_10 : decode b_M_value 10 = .ok (.iload_n 2, 1) := by decide +kernel
theorem d_M_value_11 : decode b_M_value 11 = .ok (.if_icmp .lt (7), 3) := by decide +kernel
theorem d_M_value_14 : decode b_M_value 14 = .ok (.iconst 0, 1) := by decide +kernel
theorem d_M_value_15 : decode b_M_value 15 = .ok (.goto (9), 3) := by decide +kernel
theorem d_M_value_18 : decode b_M_value 18 = .ok (.aload_n 0, 1) := by decide +kernel
theorem d_M_value_19 : decode b_M_value 19 = .ok (.getfield 37, 3) := by decide +kernel
theorem d_M_value_22 : decode b_M_value 22 = .ok (.iload_n 1, 1) := by decide +kernel
theorem d_M_value_23 : decode b_M_value 23 = .ok (.iaload, 1) := by decide +kernel
theorem d_M_value_24 : decode b_M_value 24 = .ok (.ireturn, 1) := by decide +kernel
set_option maxHeartbeats 4000000 in
set_option maxRecDepth 100000 in
theorem c_M_value_no (l : Launch) (D : va_G) (G : Nat → ClassId) (A : Nat → Prop) (Z : va_W) (h : Nat) (fs : List Value) (rg : Nat) (x : Int32) (hf7 : fs[7]? = some (.int (nI rg))) (hrg : rg = 0) : hq_FI l D G A y_M_value b_M_value 3 .int 1 [.ref h, .int x] ([(h, .inr (8, fs))] ++ Z) (0) ([(h, .inr (8, fs))] ++ Z) := by
  refine hq_bI (by decide) (Nat.le_of_ble_eq_true rfl) (fun _ _ _ => rfl) ?_
  intro p e s m args below meth c Q hx hb hml hts hown hA hK hN hret ls H locs hl hP hD hS
  have hown : s.vm.findClass "HashedLearnerModel" = some m.cls := hown
  have hl : lv_has ls 3 [(0, .ref h), (1, .int x)] := hl
  refine lv_aload_n hx hb d_M_value_0 rfl (lv_at hl 0 rfl) ?_
  have hPc : va_P D hq_cl ([(h, .inr (8, fs))] ++ Z) H := hP
  have hDc : va_D A ([(h, .inr (8, fs))] ++ Z) := hD
  refine hq_iF (hq_rV (As := []) (rest := []) hx hb hml hown hts (c_M_terms_no l D G A Z h fs rg (by first | assumption | rfl) (by first | assumption | omega)) yy_M_terms lk_M_266 hA hK hN hS hPc hDc 0 8 rfl rfl rfl hl.1 rfl (Nat.le_of_ble_eq_true rfl) d_M_value_1 ⟨by decide, by decide⟩ ⟨by decide, by decide⟩) hS (fun H locs hP hD hS => ?_)
  have hP : va_P D hq_cl ([(h, .inr (8, fs))] ++ Z) H := hP
  have hD : va_D A ([(h, .inr (8, fs))] ++ Z) := hD
  refine lv_istore_n (nL := 3) (lv' := [(2, .int (-1)), (0, .ref h), (1, .int x)]) hx hb d_M_value_4 rfl hl (by decide) rfl (fun ls hl => ?_)
  refine lv_iload_n hx hb d_M_value_5 rfl (lv_at hl 2 rfl) ?_
  refine lv_if_lt (tgt := 14) hx hb d_M_value_6 rfl (fun c6 => ?_) (fun c6 => ?_)
  · -- 6 taken
    have c6 : x < 0 := c6
    refine lv_iconst (v := 0) hx hb d_M_value_14 (by decide) ?_
    refine lv_goto (tgt := 24) hx hb d_M_value_15 rfl ?_
    exact hret 0 () H locs 24 ls d_M_value_24 (by simp [c6]) hP hD hS
  · -- 6 not taken
    have c6 : ¬ x < 0 := c6
    refine lv_iload_n hx hb d_M_value_9 rfl (lv_at hl 2 rfl) ?_
    refine lv_iload_n hx hb d_M_value_10 rfl (lv_at hl 0 rfl) ?_
    refine lv_icmp_lt (tgt := 18) hx hb d_M_value_11 rfl (fun c11 => ?_) (fun c11 => ?_)
    · -- 11 taken
      have c11 : x < (-1) := c11
      exact absurd (Int32.lt_of_lt_of_le c11 (by decide)) c6
    · -- 11 not taken
      have c11 : ¬ x < (-1) := c11
      refine lv_iconst (v := 0) hx hb d_M_value_14 (by decide) ?_
      refine lv_goto (tgt := 24) hx hb d_M_value_15 rfl ?_
      exact hret 0 () H locs 24 ls d_M_value_24 (by simp [c6, c11]) hP hD hS
