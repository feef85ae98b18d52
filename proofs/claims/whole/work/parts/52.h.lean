theorem d_H_cross_0 : decode b_H_cross 0 = .ok (.aload_n 0, 1) := by decide +kernel
theorem d_H_cross_1 : decode b_H_cross 1 = .ok (.getfield 19, 3) := by decide +kernel
theorem d_H_cross_4 : decode b_H_cross 4 = .ok (.iload_n 1, 1) := by decide +kernel
theorem d_H_cross_5 : decode b_H_cross 5 = .ok (.iload_n 2, 1) := by decide +kernel
theorem d_H_cross_6 : decode b_H_cross 6 = .ok (.invokevirtual 90, 3) := by decide +kernel
theorem d_H_cross_9 : decode b_H_cross 9 = .ok (.ireturn, 1) := by decide +kernel
set_option maxHeartbeats 4000000 in
set_option maxRecDepth 100000 in
theorem c_H_cross (l : Launch) (D : va_G) (G : Nat → ClassId) (A : Nat → Prop) (Z : va_W) (h : Nat) (fs : List Value) (y : Nat) (ya : Nat) (yb : Nat) (cl : Nat → Int32) (cr : Nat → Int32) (nc : Nat) (cd : Bool) (c1 : Int32) (c2 : Int32) (hf1 : fs[1]? = some (.ref y)) (hk : nc ≤ 3) : hq_FI l D G A y_H_cross b_H_cross 3 .boolean 3 [.ref h, .int c1, .int c2] ([(h, .inr (7, fs)), hq_o0 y ya yb (nI nc) (hq_z cd), hq_ai ya (G 2) 3 cl, hq_ai yb (G 2) 3 cr] ++ Z) (hq_z (f_Crossings_add cl cr nc cd c1 c2)) ([(h, .inr (7, fs)), hq_o0 y ya yb (nI (f_Crossings_add_o1 cl cr nc cd c1 c2)) (hq_z cd), hq_ai ya (G 2) 3 (f_Crossings_add_o2 cl cr nc cd c1 c2), hq_ai yb (G 2) 3 (f_Crossings_add_o3 cl cr nc cd c1 c2)] ++ Z) := by
  refine hq_bI (by decide) (Nat.le_of_ble_eq_true rfl) (fun r u h => by rw [h]; exact hq_znar _) ?_
  intro p e s m args below meth c Q hx hb hml hts hown hA hK hN hret ls H locs hl hP hD hS
  have hown : s.vm.findClass "HashedLearner" = some m.cls := hown
  have hl : lv_has ls 3 [(0, .ref h), (1, .int c1), (2, .int c2)] := hl
  refine lv_aload_n hx hb d_H_cross_0 rfl (lv_at hl 0 rfl) ?_
  refine va_get (D := D) (ci := 7) (v := .ref y) (C := R_H) (T := F_H) (N := 14) hx hb hts uw_H hown hK hP 0 rfl rfl 1 (by decide) (hts _ fl_H_19) (fun _ h9 => h9) hf1 d_H_cross_1 ?_
  refine lv_iload_n hx hb d_H_cross_4 rfl (lv_at hl 1 rfl) ?_
  refine lv_iload_n hx hb d_H_cross_5 rfl (lv_at hl 2 rfl) ?_
  have hPc : va_P D hq_cl ([hq_o0 y ya yb (nI nc) (hq_z cd), hq_ai ya (G 2) 3 cl, hq_ai yb (G 2) 3 cr] ++ ([(h, .inr (7, fs))] ++ Z)) H := va_P.part (cx := [hq_o0 y ya yb (nI nc) (hq_z cd), hq_ai ya (G 2) 3 cl, hq_ai yb (G 2) 3 cr, (h, .inr (7, fs))]) hP [1, 2, 3, 0] rfl
  have hDc : va_D A ([hq_o0 y ya yb (nI nc) (hq_z cd), hq_ai ya (G 2) 3 cl, hq_ai yb (G 2) 3 cr] ++ ([(h, .inr (7, fs))] ++ Z)) := va_D.part (cx := [hq_o0 y ya yb (nI nc) (hq_z cd), hq_ai ya (G 2) 3 cl, hq_ai yb (G 2) 3 cr, (h, .inr (7, fs))]) hD [1, 2, 3, 0] (by decide) rfl
  refine hq_iF (hq_rV (As := [.int c1, .int c2]) (rest := []) hx hb hml hown hts (c_Crossings_add l D G A ([(h, .inr (7, fs))] ++ Z) y ya yb cl cr nc cd c1 c2 (by first | assumption | omega)) yy_Crossings_add lk_H_90 hA hK hN hS hPc hDc 0 0 rfl rfl rfl hl.1 rfl (Nat.le_of_ble_eq_true rfl) d_H_cross_6 ⟨by decide, by decide⟩ ⟨by decide, by decide⟩) hS (fun H locs hP hD hS => ?_)
  have hP : va_P D hq_cl ([hq_o0 y ya yb (nI (f_Crossings_add_o1 cl cr nc cd c1 c2)) (hq_z cd), hq_ai ya (G 2) 3 (f_Crossings_add_o2 cl cr nc cd c1 c2), hq_ai yb (G 2) 3 (f_Crossings_add_o3 cl cr nc cd c1 c2), (h, .inr (7, fs))] ++ Z) H := hP
  have hD : va_D A ([hq_o0 y ya yb (nI (f_Crossings_add_o1 cl cr nc cd c1 c2)) (hq_z cd), hq_ai ya (G 2) 3 (f_Crossings_add_o2 cl cr nc cd c1 c2), hq_ai yb (G 2) 3 (f_Crossings_add_o3 cl cr nc cd c1 c2), (h, .inr (7, fs))] ++ Z) := hD
  have hP := va_P.part (cx := [(h, .inr (7, fs)), hq_o0 y ya yb (nI (f_Crossings_add_o1 cl cr nc cd c1 c2)) (hq_z cd), hq_ai ya (G 2) 3 (f_Crossings_add_o2 cl cr nc cd c1 c2), hq_ai yb (G 2) 3 (f_Crossings_add_o3 cl cr nc cd c1 c2)]) hP [3, 0, 1, 2] rfl
  have hD := va_D.part (cx := [(h, .inr (7, fs)), hq_o0 y ya yb (nI (f_Crossings_add_o1 cl cr nc cd c1 c2)) (hq_z cd), hq_ai ya (G 2) 3 (f_Crossings_add_o2 cl cr nc cd c1 c2), hq_ai yb (G 2) 3 (f_Crossings_add_o3 cl cr nc cd c1 c2)]) hD [3, 0, 1, 2] (by decide) rfl
  exact hret (hq_z (f_Crossings_add cl cr nc cd c1 c2)) () H locs 9 ls d_H_cross_9 (rfl) hP hD hS
theorem d_H_line_0 : decode b_H_line 0 = .ok (.aload_n 0, 1) := by decide +kernel
theorem d_H_line_1 : decode b_H_line 1 = .ok (.getfield 33, 3) := by decide +kernel
theorem d_H_line_4 : decode b_H_line 4 = .ok (.iconst 4, 1) := by decide +kernel
theorem d_H_line_5 : decode b_H_line 5 = .ok (.if_icmp .lt (6), 3) := by decide +kernel
theorem d_H_line_8 : decode b_H_line 8 = .ok (.bipush (-2), 2) := by decide +kernel
theorem d_H_line_10 : decode b_H_line 10 = .ok (.ireturn, 1) := by decide +kernel
theorem d_H_line_11 : decode b_H_line 11 = .ok (.aload_n 0, 1) := by decide +kernel
theorem d_H_line_12 : decode b_H_line 12 = .ok (.getfield 25, 3) := by decide +kernel
theorem d_H_line_15 : decode b_H_line 15 = .ok (.aload_n 0, 1) := by decide +kernel
theorem d_H_line_16 : decode b_H_line 16 = .ok (.getfield 29, 3) := by decide +kernel
theorem d_H_line_19 : decode b_H_line 19 = .ok (.aload_n 0, 1) := by decide +kernel
theorem d_H_line_20 : decode b_H_line 20 = .ok (.getfield 33, 3) := by decide +kernel
theorem d_H_line_23 : decode b_H_line 23 = .ok (.iadd, 1) := by decide +kernel
theorem d_H_line_24 : decode b_H_line 24 = .ok (.iconst 4, 1) := by decide +kernel
theorem d_H_line_25 : decode b_H_line 25 = .ok (.irem, 1) := by decide +kernel
theorem d_H_line_26 : decode b_H_line 26 = .ok (.aaload, 1) := by decide +kernel
theorem d_H_line_27 : decode b_H_line 27 = .ok (.astore_n 1, 1) := by decide +kernel
theorem d_H_line_28 : decode b_H_line 28 = .ok (.aload_n 0, 1) := by decide +kernel
theorem d_H_line_29 : decode b_H_line 29 = .ok (.getfield 12, 3) := by decide +kernel
theorem d_H_line_32 : decode b_H_line 32 = .ok (.aload_n 1, 1) := by decide +kernel
theorem d_H_line_33 : decode b_H_line 33 = .ok (.invokevirtual 94, 3) := by decide +kernel
theorem d_H_line_36 : decode b_H_line 36 = .ok (.istore_n 2, 1) := by decide +kernel
theorem d_H_line_37 : decode b_H_line 37 = .ok (.aload_n 0, 1) := by decide +kernel
theorem d_H_line_38 : decode b_H_line 38 = .ok (.getfield 12, 3) := by decide +kernel
theorem d_H_line_41 : decode b_H_line 41 = .ok (.invokevirtual 98, 3) := by decide +kernel
theorem d_H_line_44 : decode b_H_line 44 = .ok (.iload_n 2, 1) := by decide +kernel
theorem d_H_line_45 : decode b_H_line 45 = .ok (.ifCond .ne (15), 3) := by decide +kernel
theorem d_H_line_48 : decode b_H_line 48 = .ok (.aload_n 0, 1) := by decide +kernel
theorem d_H_line_49 : decode b_H_line 49 = .ok (.dup, 1) := by decide +kernel
theorem d_H_line_50 : decode b_H_line 50 = .ok (.getfield 66, 3) := by decide +kernel
theorem d_H_line_53 : decode b_H_line 53 = .ok (.iconst 1, 1) := by decide +kernel
theorem d_H_line_54 : decode b_H_line 54 = .ok (.iadd, 1) := by decide +kernel
theorem d_H_line_55 : decode b_H_line 55 = .ok (.putfield 66, 3) := by decide +kernel
theorem d_H_line_58 : decode b_H_line 58 = .ok (.iconst (-1), 1) := by decide +kernel
theorem d_H_line_59 : decode b_H_line 59 = .ok (.ireturn, 1) := by decide +kernel
theorem d_H_line_60 : decode b_H_line 60 = .ok (.aload_n 0, 1) := by decide +kernel
theorem d_H_line_61 : decode b_H_line 61 = .ok (.dup, 1) := by decide +kernel
theorem d_H_line_62 : decode b_H_line 62 = .ok (.getfield 33, 3) := by decide +kernel
theorem d_H_line_65 : decode b_H_line 65 = .ok (.iconst 1, 1) := by decide +kernel
theorem d_H_line_66 : decode b_H_line 66 = .ok (.iadd, 1) := by decide +kernel
theorem d_H_line_67 : decode b_H_line 67 = .ok (.putfield 33, 3) := by decide +kernel
theorem d_H_line_70 : decode b_H_line 70 = .ok (.aload_n 0, 1) := by decide +kernel
theorem d_H_line_71 : decode b_H_line 71 = .ok (.getfield 19, 3) := by decide +kernel
theorem d_H_line_74 : decode b_H_line 74 = .ok (.invokevirtual 101, 3) := by decide +kernel
theorem d_H_line_77 : decode b_H_line 77 = .ok (.aload_n 1, 1) := by decide +kernel
theorem d_H_line_78 : decode b_H_line 78 = .ok (.getfield 104, 3) := by decide +kernel
theorem d_H_line_81 : decode b_H_line 81 = .ok (.ireturn, 1) := by decide +kernel
set_option maxHeartbeats 4000000 in
set_option maxRecDepth 100000 in
theorem c_H_line_full (l : Launch) (D : va_G) (G : Nat → ClassId) (A : Nat → Prop) (Z : va_W) (h : Nat) (lna : Nat) (y : Nat) (rra : Nat) (od : Nat) (hd : Nat) (rsa : Nat) (so : Nat) (z : Nat) (o : Nat) (tl : Nat) (b : Nat) (mma : Nat) (vva : Nat) (wc : Int32) (hhd : 4 ≤ hd) (hhd2 : hd < 2 ^ 30) : hq_FI l D G A y_H_line b_H_line 3 .int 0 [.ref h] ([hq_o7 h lna y rra (nI od) (nI hd) rsa (nI so) z o tl b mma vva wc] ++ Z) ((-2)) ([hq_o7 h lna y rra (nI od) (nI hd) rsa (nI so) z o tl b mma vva wc] ++ Z) := by
  refine hq_bI (by decide) (Nat.le_of_ble_eq_true rfl) (fun _ _ _ => rfl) ?_
  intro p e s m args below meth c Q hx hb hml hts hown hA hK hN hret ls H locs hl hP hD hS
  have hown : s.vm.findClass "HashedLearner" = some m.cls := hown
  have hl : lv_has ls 3 [(0, .ref h)] := hl
  refine lv_aload_n hx hb d_H_line_0 rfl (lv_at hl 0 rfl) ?_
  refine va_get (D := D) (ci := 7) (v := .int (nI hd)) (C := R_H) (T := F_H) (N := 14) hx hb hts uw_H hown hK hP 0 rfl rfl 4 (by decide) (hts _ fl_H_33) (fun _ h9 => h9) rfl d_H_line_1 ?_
  refine lv_iconst (v := 4) hx hb d_H_line_4 (by decide) ?_
  refine lv_icmp_lt (tgt := 11) hx hb d_H_line_5 rfl (fun c5 => ?_) (fun c5 => ?_)
  · -- 5 taken
    have c5 : hd < 4 := (nI_ltI (a := hd) (b := 4) (by omega) (by omega)).mp c5
    exact absurd c5 (by omega)
  · -- 5 not taken
    have c5 : ¬ hd < 4 := fun h => c5 ((nI_ltI (a := hd) (b := 4) (by omega) (by omega)).mpr h)
    refine lv_bipush (v := (-2)) hx hb d_H_line_8 (by decide) ?_
    exact hret (-2) () H locs 10 ls d_H_line_10 (by simp [c5]) hP hD hS
set_option maxHeartbeats 4000000 in
set_option maxRecDepth 100000 in
theorem c_H_line_bad (l : Launch) (D : va_G) (G : Nat → ClassId) (A : Nat → Prop) (Z : va_W) (h : Nat) (lna : Nat) (y : Nat) (rra : Nat) (od : Nat) (hd : Nat) (rsa : Nat) (so : Nat) (z : Nat) (o : Nat) (tl : Nat) (b : Nat) (mma : Nat) (vva : Nat) (wc : Int32) (fr : Nat → Option Nat) (ta : Nat) (t : Nat → Int32) (len : Nat) (ne : Int32) (pn : Int32) (lt : Int32) (sd : Int32) (fc : Int32) (x : Nat) (xa : Nat) (xb : Nat) (xc : Nat) (fh : Nat → Int32) (fv : Nat → Int32) (fl : Nat → Int32) (k : Nat) (lab : Bool) (lb : Int32) (im : Int32) (hhd : hd < 4) (hod : od < 4) (hlen : len ≤ 100) (ht : ∀ q, q < len → hq_ch (t q)) (hk : k ≤ 12) (hfr : fr ((od + hd) % 4) = some x) (hpar : hq_par t len = none) : hq_MI l D G A y_H_line b_H_line 3 .int 6 0 0 [.ref h] ([hq_o7 h lna y rra (nI od) (nI hd) rsa (nI so) z o tl b mma vva wc, hq_aq rra (G 4) 4 fr, hq_o2 lna ta (nI len) ne pn lt sd fc, hq_ai ta (G 2) 100 t, hq_o1 x xa xb xc (nI k) (hq_z lab) lb im, hq_ai xa (G 0) 12 fh, hq_ai xb (G 0) 12 fv, hq_ai xc (G 2) 12 fl] ++ Z) (fun r (u : (Bool × Int32 × Int32) × (Nat → Int32) × (Nat → Int32) × (Nat → Int32) × Nat × Int32 × Int32 × Int32 × Int32 × Int32) => r = (-1) ∧ u.2.2.2.2.1 ≤ 12) (fun (u : (Bool × Int32 × Int32) × (Nat → Int32) × (Nat → Int32) × (Nat → Int32) × Nat × Int32 × Int32 × Int32 × Int32 × Int32) => [hq_o7 h lna y rra (nI od) (nI hd) rsa (nI so) z o tl b mma vva (wc + 1), hq_aq rra (G 4) 4 fr, hq_o2 lna ta (nI 0) u.2.2.2.2.2.1 u.2.2.2.2.2.2.1 u.2.2.2.2.2.2.2.1 u.2.2.2.2.2.2.2.2.1 u.2.2.2.2.2.2.2.2.2, hq_ai ta (G 2) 100 t, hq_o1 x xa xb xc (nI u.2.2.2.2.1) (hq_z u.1.1) u.1.2.1 u.1.2.2, hq_ai xa (G 0) 12 u.2.1, hq_ai xb (G 0) 12 u.2.2.1, hq_ai xc (G 2) 12 u.2.2.2.1] ++ Z) := by
  refine hq_bI (by decide) (Nat.le_of_ble_eq_true rfl) (fun _ _ _ => rfl) ?_
  intro p e s m args below meth c Q hx hb hml hts hown hA hK hN hret ls H locs hl hP hD hS
  have hown : s.vm.findClass "HashedLearner" = some m.cls := hown
  have hl : lv_has ls 3 [(0, .ref h)] := hl
  refine lv_aload_n hx hb d_H_line_0 rfl (lv_at hl 0 rfl) ?_
  refine va_get (D := D) (ci := 7) (v := .int (nI hd)) (C := R_H) (T := F_H) (N := 14) hx hb hts uw_H hown hK hP 0 rfl rfl 4 (by decide) (hts _ fl_H_33) (fun _ h9 => h9) rfl d_H_line_1 ?_
  refine lv_iconst (v := 4) hx hb d_H_line_4 (by decide) ?_
  refine lv_icmp_lt (tgt := 11) hx hb d_H_line_5 rfl (fun c5 => ?_) (fun c5 => ?_)
  · -- 5 taken
    have c5 : hd < 4 := (nI_ltI (a := hd) (b := 4) (by omega) (by omega)).mp c5
    refine lv_aload_n hx hb d_H_line_11 rfl (lv_at hl 0 rfl) ?_
    refine va_get (D := D) (ci := 7) (v := .ref rra) (C := R_H) (T := F_H) (N := 14) hx hb hts uw_H hown hK hP 0 rfl rfl 2 (by decide) (hts _ fl_H_25) (fun _ h9 => h9) rfl d_H_line_12 ?_
    refine lv_aload_n hx hb d_H_line_15 rfl (lv_at hl 0 rfl) ?_
    refine va_get (D := D) (ci := 7) (v := .int (nI od)) (C := R_H) (T := F_H) (N := 14) hx hb hts uw_H hown hK hP 0 rfl rfl 3 (by decide) (hts _ fl_H_29) (fun _ h9 => h9) rfl d_H_line_16 ?_
    refine lv_aload_n hx hb d_H_line_19 rfl (lv_at hl 0 rfl) ?_
    refine va_get (D := D) (ci := 7) (v := .int (nI hd)) (C := R_H) (T := F_H) (N := 14) hx hb hts uw_H hown hK hP 0 rfl rfl 4 (by decide) (hts _ fl_H_33) (fun _ h9 => h9) rfl d_H_line_20 ?_
    refine lv_iadd hx hb d_H_line_23 ?_
    refine hq_topi (x' := nI (od + hd)) (nI_add od hd) ?_
    refine lv_iconst (v := 4) hx hb d_H_line_24 (by decide) ?_
    refine lv_irem hx hb d_H_line_25 (by decide) ?_
    refine hq_topi (x' := nI ((od + hd) % 4)) (pk_rem (d := 4) (by omega) (by decide) (by decide)) ?_
    refine hq_aald (j := (od + hd) % 4) hx hb hK hP 1 4 rfl rfl (by omega) (by omega) d_H_line_26 ?_
    refine hq_topq (y := x) (hfr) ?_
    refine lv_astore_n (nL := 3) (lv' := [(1, .ref x), (0, .ref h)]) hx hb d_H_line_27 rfl hl (by decide) rfl (fun ls hl => ?_)
    refine lv_aload_n hx hb d_H_line_28 rfl (lv_at hl 1 rfl) ?_
    refine va_get (D := D) (ci := 7) (v := .ref lna) (C := R_H) (T := F_H) (N := 14) hx hb hts uw_H hown hK hP 0 rfl rfl 0 (by decide) (hts _ fl_H_12) (fun _ h9 => h9) rfl d_H_line_29 ?_
    refine lv_aload_n hx hb d_H_line_32 rfl (lv_at hl 0 rfl) ?_
    have hPc : va_P D hq_cl ([hq_o2 lna ta (nI len) ne pn lt sd fc, hq_ai ta (G 2) 100 t, hq_o1 x xa xb xc (nI k) (hq_z lab) lb im, hq_ai xa (G 0) 12 fh, hq_ai xb (G 0) 12 fv, hq_ai xc (G 2) 12 fl] ++ ([hq_o7 h lna y rra (nI od) (nI hd) rsa (nI so) z o tl b mma vva wc, hq_aq rra (G 4) 4 fr] ++ Z)) H := va_P.part (cx := [hq_o2 lna ta (nI len) ne pn lt sd fc, hq_ai ta (G 2) 100 t, hq_o1 x xa xb xc (nI k) (hq_z lab) lb im, hq_ai xa (G 0) 12 fh, hq_ai xb (G 0) 12 fv, hq_ai xc (G 2) 12 fl, hq_o7 h lna y rra (nI od) (nI hd) rsa (nI so) z o tl b mma vva wc, hq_aq rra (G 4) 4 fr]) hP [2, 3, 4, 5, 6, 7, 0, 1] rfl
    have hDc : va_D A ([hq_o2 lna ta (nI len) ne pn lt sd fc, hq_ai ta (G 2) 100 t, hq_o1 x xa xb xc (nI k) (hq_z lab) lb im, hq_ai xa (G 0) 12 fh, hq_ai xb (G 0) 12 fv, hq_ai xc (G 2) 12 fl] ++ ([hq_o7 h lna y rra (nI od) (nI hd) rsa (nI so) z o tl b mma vva wc, hq_aq rra (G 4) 4 fr] ++ Z)) := va_D.part (cx := [hq_o2 lna ta (nI len) ne pn lt sd fc, hq_ai ta (G 2) 100 t, hq_o1 x xa xb xc (nI k) (hq_z lab) lb im, hq_ai xa (G 0) 12 fh, hq_ai xb (G 0) 12 fv, hq_ai xc (G 2) 12 fl, hq_o7 h lna y rra (nI od) (nI hd) rsa (nI so) z o tl b mma vva wc, hq_aq rra (G 4) 4 fr]) hD [2, 3, 4, 5, 6, 7, 0, 1] (by decide) rfl
    refine hq_i (hq_rV (As := [.ref x]) (rest := []) hx hb hml hown hts (c_Line_readInto l D G A ([hq_o7 h lna y rra (nI od) (nI hd) rsa (nI so) z o tl b mma vva wc, hq_aq rra (G 4) 4 fr] ++ Z) lna ta t len ne pn lt sd fc x xa xb xc fh fv fl k lab lb im (by first | assumption | omega) (by first | assumption | omega) (by first | assumption | omega)) yy_Line_readInto lk_H_94 hA hK hN hS hPc hDc 0 2 rfl rfl rfl hl.1 rfl (Nat.le_of_ble_eq_true rfl) d_H_line_33 ⟨by decide, by decide⟩ ⟨by decide, by decide⟩) hS (fun r33 u33 H locs w33 hP hD hS => ?_)
    have hP : va_P D hq_cl ([hq_o2 lna ta (nI len) u33.2.2.2.2.2.1 u33.2.2.2.2.2.2.1 u33.2.2.2.2.2.2.2.1 u33.2.2.2.2.2.2.2.2.1 u33.2.2.2.2.2.2.2.2.2, hq_ai ta (G 2) 100 t, hq_o1 x xa xb xc (nI u33.2.2.2.2.1) (hq_z u33.1.1) u33.1.2.1 u33.1.2.2, hq_ai xa (G 0) 12 u33.2.1, hq_ai xb (G 0) 12 u33.2.2.1, hq_ai xc (G 2) 12 u33.2.2.2.1, hq_o7 h lna y rra (nI od) (nI hd) rsa (nI so) z o tl b mma vva wc, hq_aq rra (G 4) 4 fr] ++ Z) H := hP
    have hD : va_D A ([hq_o2 lna ta (nI len) u33.2.2.2.2.2.1 u33.2.2.2.2.2.2.1 u33.2.2.2.2.2.2.2.1 u33.2.2.2.2.2.2.2.2.1 u33.2.2.2.2.2.2.2.2.2, hq_ai ta (G 2) 100 t, hq_o1 x xa xb xc (nI u33.2.2.2.2.1) (hq_z u33.1.1) u33.1.2.1 u33.1.2.2, hq_ai xa (G 0) 12 u33.2.1, hq_ai xb (G 0) 12 u33.2.2.1, hq_ai xc (G 2) 12 u33.2.2.2.1, hq_o7 h lna y rra (nI od) (nI hd) rsa (nI so) z o tl b mma vva wc, hq_aq rra (G 4) 4 fr] ++ Z) := hD
    obtain ⟨⟨lab2, lb2, im2⟩, fh2, fv2, fl2, k2, ne2, pn2, lt2, sd2, fc2⟩ := u33
    obtain ⟨w33, hk2, hR2⟩ := w33
    rw [hpar] at w33
    have w33 : r33 = 0 := w33
    subst w33
    have hP : va_P D hq_cl ([hq_o2 lna ta (nI len) ne2 pn2 lt2 sd2 fc2, hq_ai ta (G 2) 100 t, hq_o1 x xa xb xc (nI k2) (hq_z lab2) lb2 im2, hq_ai xa (G 0) 12 fh2, hq_ai xb (G 0) 12 fv2, hq_ai xc (G 2) 12 fl2, hq_o7 h lna y rra (nI od) (nI hd) rsa (nI so) z o tl b mma vva wc, hq_aq rra (G 4) 4 fr] ++ Z) H := hP
    have hD : va_D A ([hq_o2 lna ta (nI len) ne2 pn2 lt2 sd2 fc2, hq_ai ta (G 2) 100 t, hq_o1 x xa xb xc (nI k2) (hq_z lab2) lb2 im2, hq_ai xa (G 0) 12 fh2, hq_ai xb (G 0) 12 fv2, hq_ai xc (G 2) 12 fl2, hq_o7 h lna y rra (nI od) (nI hd) rsa (nI so) z o tl b mma vva wc, hq_aq rra (G 4) 4 fr] ++ Z) := hD
    refine lv_istore_n (nL := 3) (lv' := [(2, .int 0), (1, .ref x), (0, .ref h)]) hx hb d_H_line_36 rfl hl (by decide) rfl (fun ls hl => ?_)
    refine lv_aload_n hx hb d_H_line_37 rfl (lv_at hl 2 rfl) ?_
    refine va_get (D := D) (ci := 7) (v := .ref lna) (C := R_H) (T := F_H) (N := 14) hx hb hts uw_H hown hK hP 6 rfl rfl 0 (by decide) (hts _ fl_H_12) (fun _ h9 => h9) rfl d_H_line_38 ?_
    have hPc : va_P D hq_cl ([hq_o2 lna ta (nI len) ne2 pn2 lt2 sd2 fc2, hq_ai ta (G 2) 100 t] ++ ([hq_o1 x xa xb xc (nI k2) (hq_z lab2) lb2 im2, hq_ai xa (G 0) 12 fh2, hq_ai xb (G 0) 12 fv2, hq_ai xc (G 2) 12 fl2, hq_o7 h lna y rra (nI od) (nI hd) rsa (nI so) z o tl b mma vva wc, hq_aq rra (G 4) 4 fr] ++ Z)) H := hP
    have hDc : va_D A ([hq_o2 lna ta (nI len) ne2 pn2 lt2 sd2 fc2, hq_ai ta (G 2) 100 t] ++ ([hq_o1 x xa xb xc (nI k2) (hq_z lab2) lb2 im2, hq_ai xa (G 0) 12 fh2, hq_ai xb (G 0) 12 fv2, hq_ai xc (G 2) 12 fl2, hq_o7 h lna y rra (nI od) (nI hd) rsa (nI so) z o tl b mma vva wc, hq_aq rra (G 4) 4 fr] ++ Z)) := hD
    refine hq_vF (hq_rV (As := []) (rest := []) hx hb hml hown hts (c_Line_clear l D G A ([hq_o1 x xa xb xc (nI k2) (hq_z lab2) lb2 im2, hq_ai xa (G 0) 12 fh2, hq_ai xb (G 0) 12 fv2, hq_ai xc (G 2) 12 fl2, hq_o7 h lna y rra (nI od) (nI hd) rsa (nI so) z o tl b mma vva wc, hq_aq rra (G 4) 4 fr] ++ Z) lna ta t len ne2 pn2 lt2 sd2 fc2) yy_Line_clear lk_H_98 hA hK hN hS hPc hDc 0 2 rfl rfl rfl hl.1 rfl (Nat.le_of_ble_eq_true rfl) d_H_line_41 ⟨by decide, by decide⟩ ⟨by decide, by decide⟩) hS (fun H locs hP hD hS => ?_)
    have hP : va_P D hq_cl ([hq_o2 lna ta (nI 0) ne2 pn2 lt2 sd2 fc2, hq_ai ta (G 2) 100 t, hq_o1 x xa xb xc (nI k2) (hq_z lab2) lb2 im2, hq_ai xa (G 0) 12 fh2, hq_ai xb (G 0) 12 fv2, hq_ai xc (G 2) 12 fl2, hq_o7 h lna y rra (nI od) (nI hd) rsa (nI so) z o tl b mma vva wc, hq_aq rra (G 4) 4 fr] ++ Z) H := hP
    have hD : va_D A ([hq_o2 lna ta (nI 0) ne2 pn2 lt2 sd2 fc2, hq_ai ta (G 2) 100 t, hq_o1 x xa xb xc (nI k2) (hq_z lab2) lb2 im2, hq_ai xa (G 0) 12 fh2, hq_ai xb (G 0) 12 fv2, hq_ai xc (G 2) 12 fl2, hq_o7 h lna y rra (nI od) (nI hd) rsa (nI so) z o tl b mma vva wc, hq_aq rra (G 4) 4 fr] ++ Z) := hD
    refine lv_iload_n hx hb d_H_line_44 rfl (lv_at hl 0 rfl) ?_
    refine lv_if_ne (tgt := 60) hx hb d_H_line_45 rfl (fun c45 => ?_) (fun c45 => ?_)
    · exact absurd (by decide) c45
    · skip
      refine lv_aload_n hx hb d_H_line_48 rfl (lv_at hl 2 rfl) ?_
      refine lv_dup hx hb d_H_line_49 rfl ?_
      refine va_get (D := D) (ci := 7) (v := .int wc) (C := R_H) (T := F_H) (N := 14) hx hb hts uw_H hown hK hP 6 rfl rfl 13 (by decide) (hts _ fl_H_66) (fun _ h9 => h9) rfl d_H_line_50 ?_
      refine lv_iconst (v := 1) hx hb d_H_line_53 (by decide) ?_
      refine lv_iadd hx hb d_H_line_54 ?_
      refine va_put (D := D) (ci := 7) (v := .int (wc + 1)) (ty := .int) (C := R_H) (T := F_H) (N := 14) hx hb hts uw_H t_H t_H_ok n_H hown hK hP hD hS 6 rfl rfl 13 (by decide) (hts _ fl_H_66) (fun _ h9 => h9) rfl (by decide +kernel) (rfl) (rfl) (Nat.le_of_ble_eq_true rfl) d_H_line_55 (fun H locs hP hD hS => ?_)
      have hP : va_P D hq_cl ([hq_o2 lna ta (nI 0) ne2 pn2 lt2 sd2 fc2, hq_ai ta (G 2) 100 t, hq_o1 x xa xb xc (nI k2) (hq_z lab2) lb2 im2, hq_ai xa (G 0) 12 fh2, hq_ai xb (G 0) 12 fv2, hq_ai xc (G 2) 12 fl2, hq_o7 h lna y rra (nI od) (nI hd) rsa (nI so) z o tl b mma vva (wc + 1), hq_aq rra (G 4) 4 fr] ++ Z) H := hP
      have hD : va_D A ([hq_o2 lna ta (nI 0) ne2 pn2 lt2 sd2 fc2, hq_ai ta (G 2) 100 t, hq_o1 x xa xb xc (nI k2) (hq_z lab2) lb2 im2, hq_ai xa (G 0) 12 fh2, hq_ai xb (G 0) 12 fv2, hq_ai xc (G 2) 12 fl2, hq_o7 h lna y rra (nI od) (nI hd) rsa (nI so) z o tl b mma vva (wc + 1), hq_aq rra (G 4) 4 fr] ++ Z) := hD
      refine lv_iconst (v := (-1)) hx hb d_H_line_58 (by decide) ?_
      have hP := va_P.part (cx := [hq_o7 h lna y rra (nI od) (nI hd) rsa (nI so) z o tl b mma vva (wc + 1), hq_aq rra (G 4) 4 fr, hq_o2 lna ta (nI 0) ne2 pn2 lt2 sd2 fc2, hq_ai ta (G 2) 100 t, hq_o1 x xa xb xc (nI k2) (hq_z lab2) lb2 im2, hq_ai xa (G 0) 12 fh2, hq_ai xb (G 0) 12 fv2, hq_ai xc (G 2) 12 fl2]) hP [6, 7, 0, 1, 2, 3, 4, 5] rfl
      have hD := va_D.part (cx := [hq_o7 h lna y rra (nI od) (nI hd) rsa (nI so) z o tl b mma vva (wc + 1), hq_aq rra (G 4) 4 fr, hq_o2 lna ta (nI 0) ne2 pn2 lt2 sd2 fc2, hq_ai ta (G 2) 100 t, hq_o1 x xa xb xc (nI k2) (hq_z lab2) lb2 im2, hq_ai xa (G 0) 12 fh2, hq_ai xb (G 0) 12 fv2, hq_ai xc (G 2) 12 fl2]) hD [6, 7, 0, 1, 2, 3, 4, 5] (by decide) rfl
      exact hret (-1) ((lab2, lb2, im2), fh2, fv2, fl2, k2, ne2, pn2, lt2, sd2, fc2) H locs 59 ls d_H_line_59 (⟨rfl, hk2⟩) hP hD hS
  · -- 5 not taken
    have c5 : ¬ hd < 4 := fun h => c5 ((nI_ltI (a := hd) (b := 4) (by omega) (by omega)).mpr h)
    exact absurd (by omega) c5
set_option maxHeartbeats 4000000 in
set_option maxRecDepth 100000 in
theorem c_H_line_good (l : Launch) (D : va_G) (G : Nat → ClassId) (A : Nat → Prop) (Z : va_W) (h : Nat) (lna : Nat) (y : Nat) (rra : Nat) (od : Nat) (hd : Nat) (rsa : Nat) (so : Nat) (z : Nat) (o : Nat) (tl : Nat) (b : Nat) (mma : Nat) (vva : Nat) (wc : Int32) (fr : Nat → Option Nat) (ta : Nat) (t : Nat → Int32) (len : Nat) (ne : Int32) (pn : Int32) (lt : Int32) (sd : Int32) (fc : Int32) (x : Nat) (xa : Nat) (xb : Nat) (xc : Nat) (fh : Nat → Int32) (fv : Nat → Int32) (fl : Nat → Int32) (k : Nat) (lab : Bool) (lb : Int32) (im : Int32) (ya : Nat) (yb : Nat) (cl : Nat → Int32) (cr : Nat → Int32) (nc : Nat) (cd : Bool) (lab9 : Bool) (lb9 : Int32) (im9 : Int32) (L9 : List (Int32 × Int32 × Int32)) (hhd : hd < 4) (hod : od < 4) (hlen : len ≤ 100) (ht : ∀ q, q < len → hq_ch (t q)) (hk : k ≤ 12) (hfr : fr ((od + hd) % 4) = some x) (hpar : hq_par t len = some (lab9, lb9, im9, L9)) : hq_MI l D G A y_H_line b_H_line 3 .int 6 0 0 [.ref h] ([hq_o7 h lna y rra (nI od) (nI hd) rsa (nI so) z o tl b mma vva wc, hq_aq rra (G 4) 4 fr, hq_o2 lna ta (nI len) ne pn lt sd fc, hq_ai ta (G 2) 100 t, hq_o1 x xa xb xc (nI k) (hq_z lab) lb im, hq_ai xa (G 0) 12 fh, hq_ai xb (G 0) 12 fv, hq_ai xc (G 2) 12 fl, hq_o0 y ya yb (nI nc) (hq_z cd), hq_ai ya (G 2) 3 cl, hq_ai yb (G 2) 3 cr] ++ Z) (fun r (u : (Bool × Int32 × Int32) × (Nat → Int32) × (Nat → Int32) × (Nat → Int32) × Nat × Int32 × Int32 × Int32 × Int32 × Int32) => r = nI L9.length ∧ u.1.1 = lab9 ∧ u.1.2.1 = lb9 ∧ u.1.2.2 = im9 ∧ hq_rep L9 u.2.1 u.2.2.1 u.2.2.2.1 u.2.2.2.2.1) (fun (u : (Bool × Int32 × Int32) × (Nat → Int32) × (Nat → Int32) × (Nat → Int32) × Nat × Int32 × Int32 × Int32 × Int32 × Int32) => [hq_o7 h lna y rra (nI od) (nI (hd + 1)) rsa (nI so) z o tl b mma vva wc, hq_aq rra (G 4) 4 fr, hq_o2 lna ta (nI 0) u.2.2.2.2.2.1 u.2.2.2.2.2.2.1 u.2.2.2.2.2.2.2.1 u.2.2.2.2.2.2.2.2.1 u.2.2.2.2.2.2.2.2.2, hq_ai ta (G 2) 100 t, hq_o1 x xa xb xc (nI u.2.2.2.2.1) (hq_z u.1.1) u.1.2.1 u.1.2.2, hq_ai xa (G 0) 12 u.2.1, hq_ai xb (G 0) 12 u.2.2.1, hq_ai xc (G 2) 12 u.2.2.2.1, hq_o0 y ya yb (nI nc) (hq_z true), hq_ai ya (G 2) 3 cl, hq_ai yb (G 2) 3 cr] ++ Z) := by
  refine hq_bI (by decide) (Nat.le_of_ble_eq_true rfl) (fun _ _ _ => rfl) ?_
  intro p e s m args below meth c Q hx hb hml hts hown hA hK hN hret ls H locs hl hP hD hS
  have hown : s.vm.findClass "HashedLearner" = some m.cls := hown
  have hl : lv_has ls 3 [(0, .ref h)] := hl
  refine lv_aload_n hx hb d_H_line_0 rfl (lv_at hl 0 rfl) ?_
  refine va_get (D := D) (ci := 7) (v := .int (nI hd)) (C := R_H) (T := F_H) (N := 14) hx hb hts uw_H hown hK hP 0 rfl rfl 4 (by decide) (hts _ fl_H_33) (fun _ h9 => h9) rfl d_H_line_1 ?_
  refine lv_iconst (v := 4) hx hb d_H_line_4 (by decide) ?_
  refine lv_icmp_lt (tgt := 11) hx hb d_H_line_5 rfl (fun c5 => ?_) (fun c5 => ?_)
  · -- 5 taken
    have c5 : hd < 4 := (nI_ltI (a := hd) (b := 4) (by omega) (by omega)).mp c5
    refine lv_aload_n hx hb d_H_line_11 rfl (lv_at hl 0 rfl) ?_
    refine va_get (D := D) (ci := 7) (v := .ref rra) (C := R_H) (T := F_H) (N := 14) hx hb hts uw_H hown hK hP 0 rfl rfl 2 (by decide) (hts _ fl_H_25) (fun _ h9 => h9) rfl d_H_line_12 ?_
    refine lv_aload_n hx hb d_H_line_15 rfl (lv_at hl 0 rfl) ?_
    refine va_get (D := D) (ci := 7) (v := .int (nI od)) (C := R_H) (T := F_H) (N := 14) hx hb hts uw_H hown hK hP 0 rfl rfl 3 (by decide) (hts _ fl_H_29) (fun _ h9 => h9) rfl d_H_line_16 ?_
    refine lv_aload_n hx hb d_H_line_19 rfl (lv_at hl 0 rfl) ?_
    refine va_get (D := D) (ci := 7) (v := .int (nI hd)) (C := R_H) (T := F_H) (N := 14) hx hb hts uw_H hown hK hP 0 rfl rfl 4 (by decide) (hts _ fl_H_33) (fun _ h9 => h9) rfl d_H_line_20 ?_
    refine lv_iadd hx hb d_H_line_23 ?_
    refine hq_topi (x' := nI (od + hd)) (nI_add od hd) ?_
    refine lv_iconst (v := 4) hx hb d_H_line_24 (by decide) ?_
    refine lv_irem hx hb d_H_line_25 (by decide) ?_
    refine hq_topi (x' := nI ((od + hd) % 4)) (pk_rem (d := 4) (by omega) (by decide) (by decide)) ?_
    refine hq_aald (j := (od + hd) % 4) hx hb hK hP 1 4 rfl rfl (by omega) (by omega) d_H_line_26 ?_
    refine hq_topq (y := x) (hfr) ?_
    refine lv_astore_n (nL := 3) (lv' := [(1, .ref x), (0, .ref h)]) hx hb d_H_line_27 rfl hl (by decide) rfl (fun ls hl => ?_)
    refine lv_aload_n hx hb d_H_line_28 rfl (lv_at hl 1 rfl) ?_
    refine va_get (D := D) (ci := 7) (v := .ref lna) (C := R_H) (T := F_H) (N := 14) hx hb hts uw_H hown hK hP 0 rfl rfl 0 (by decide) (hts _ fl_H_12) (fun _ h9 => h9) rfl d_H_line_29 ?_
    refine lv_aload_n hx hb d_H_line_32 rfl (lv_at hl 0 rfl) ?_
    have hPc : va_P D hq_cl ([hq_o2 lna ta (nI len) ne pn lt sd fc, hq_ai ta (G 2) 100 t, hq_o1 x xa xb xc (nI k) (hq_z lab) lb im, hq_ai xa (G 0) 12 fh, hq_ai xb (G 0) 12 fv, hq_ai xc (G 2) 12 fl] ++ ([hq_o7 h lna y rra (nI od) (nI hd) rsa (nI so) z o tl b mma vva wc, hq_aq rra (G 4) 4 fr, hq_o0 y ya yb (nI nc) (hq_z cd), hq_ai ya (G 2) 3 cl, hq_ai yb (G 2) 3 cr] ++ Z)) H := va_P.part (cx := [hq_o2 lna ta (nI len) ne pn lt sd fc, hq_ai ta (G 2) 100 t, hq_o1 x xa xb xc (nI k) (hq_z lab) lb im, hq_ai xa (G 0) 12 fh, hq_ai xb (G 0) 12 fv, hq_ai xc (G 2) 12 fl, hq_o7 h lna y rra (nI od) (nI hd) rsa (nI so) z o tl b mma vva wc, hq_aq rra (G 4) 4 fr, hq_o0 y ya yb (nI nc) (hq_z cd), hq_ai ya (G 2) 3 cl, hq_ai yb (G 2) 3 cr]) hP [2, 3, 4, 5, 6, 7, 0, 1, 8, 9, 10] rfl
    have hDc : va_D A ([hq_o2 lna ta (nI len) ne pn lt sd fc, hq_ai ta (G 2) 100 t, hq_o1 x xa xb xc (nI k) (hq_z lab) lb im, hq_ai xa (G 0) 12 fh, hq_ai xb (G 0) 12 fv, hq_ai xc (G 2) 12 fl] ++ ([hq_o7 h lna y rra (nI od) (nI hd) rsa (nI so) z o tl b mma vva wc, hq_aq rra (G 4) 4 fr, hq_o0 y ya yb (nI nc) (hq_z cd), hq_ai ya (G 2) 3 cl, hq_ai yb (G 2) 3 cr] ++ Z)) := va_D.part (cx := [hq_o2 lna ta (nI len) ne pn lt sd fc, hq_ai ta (G 2) 100 t, hq_o1 x xa xb xc (nI k) (hq_z lab) lb im, hq_ai xa (G 0) 12 fh, hq_ai xb (G 0) 12 fv, hq_ai xc (G 2) 12 fl, hq_o7 h lna y rra (nI od) (nI hd) rsa (nI so) z o tl b mma vva wc, hq_aq rra (G 4) 4 fr, hq_o0 y ya yb (nI nc) (hq_z cd), hq_ai ya (G 2) 3 cl, hq_ai yb (G 2) 3 cr]) hD [2, 3, 4, 5, 6, 7, 0, 1, 8, 9, 10] (by decide) rfl
    refine hq_i (hq_rV (As := [.ref x]) (rest := []) hx hb hml hown hts (c_Line_readInto l D G A ([hq_o7 h lna y rra (nI od) (nI hd) rsa (nI so) z o tl b mma vva wc, hq_aq rra (G 4) 4 fr, hq_o0 y ya yb (nI nc) (hq_z cd), hq_ai ya (G 2) 3 cl, hq_ai yb (G 2) 3 cr] ++ Z) lna ta t len ne pn lt sd fc x xa xb xc fh fv fl k lab lb im (by first | assumption | omega) (by first | assumption | omega) (by first | assumption | omega)) yy_Line_readInto lk_H_94 hA hK hN hS hPc hDc 0 2 rfl rfl rfl hl.1 rfl (Nat.le_of_ble_eq_true rfl) d_H_line_33 ⟨by decide, by decide⟩ ⟨by decide, by decide⟩) hS (fun r33 u33 H locs w33 hP hD hS => ?_)
    have hP : va_P D hq_cl ([hq_o2 lna ta (nI len) u33.2.2.2.2.2.1 u33.2.2.2.2.2.2.1 u33.2.2.2.2.2.2.2.1 u33.2.2.2.2.2.2.2.2.1 u33.2.2.2.2.2.2.2.2.2, hq_ai ta (G 2) 100 t, hq_o1 x xa xb xc (nI u33.2.2.2.2.1) (hq_z u33.1.1) u33.1.2.1 u33.1.2.2, hq_ai xa (G 0) 12 u33.2.1, hq_ai xb (G 0) 12 u33.2.2.1, hq_ai xc (G 2) 12 u33.2.2.2.1, hq_o7 h lna y rra (nI od) (nI hd) rsa (nI so) z o tl b mma vva wc, hq_aq rra (G 4) 4 fr, hq_o0 y ya yb (nI nc) (hq_z cd), hq_ai ya (G 2) 3 cl, hq_ai yb (G 2) 3 cr] ++ Z) H := hP
    have hD : va_D A ([hq_o2 lna ta (nI len) u33.2.2.2.2.2.1 u33.2.2.2.2.2.2.1 u33.2.2.2.2.2.2.2.1 u33.2.2.2.2.2.2.2.2.1 u33.2.2.2.2.2.2.2.2.2, hq_ai ta (G 2) 100 t, hq_o1 x xa xb xc (nI u33.2.2.2.2.1) (hq_z u33.1.1) u33.1.2.1 u33.1.2.2, hq_ai xa (G 0) 12 u33.2.1, hq_ai xb (G 0) 12 u33.2.2.1, hq_ai xc (G 2) 12 u33.2.2.2.1, hq_o7 h lna y rra (nI od) (nI hd) rsa (nI so) z o tl b mma vva wc, hq_aq rra (G 4) 4 fr, hq_o0 y ya yb (nI nc) (hq_z cd), hq_ai ya (G 2) 3 cl, hq_ai yb (G 2) 3 cr] ++ Z) := hD
    obtain ⟨⟨lab2, lb2, im2⟩, fh2, fv2, fl2, k2, ne2, pn2, lt2, sd2, fc2⟩ := u33
    obtain ⟨w33, hk2, hR2⟩ := w33
    obtain ⟨e1, e2, e3, hr2⟩ := hR2 _ hpar
    rw [hpar] at w33
    have w33 : r33 = 1 := w33
    subst w33
    have hP : va_P D hq_cl ([hq_o2 lna ta (nI len) ne2 pn2 lt2 sd2 fc2, hq_ai ta (G 2) 100 t, hq_o1 x xa xb xc (nI k2) (hq_z lab2) lb2 im2, hq_ai xa (G 0) 12 fh2, hq_ai xb (G 0) 12 fv2, hq_ai xc (G 2) 12 fl2, hq_o7 h lna y rra (nI od) (nI hd) rsa (nI so) z o tl b mma vva wc, hq_aq rra (G 4) 4 fr, hq_o0 y ya yb (nI nc) (hq_z cd), hq_ai ya (G 2) 3 cl, hq_ai yb (G 2) 3 cr] ++ Z) H := hP
    have hD : va_D A ([hq_o2 lna ta (nI len) ne2 pn2 lt2 sd2 fc2, hq_ai ta (G 2) 100 t, hq_o1 x xa xb xc (nI k2) (hq_z lab2) lb2 im2, hq_ai xa (G 0) 12 fh2, hq_ai xb (G 0) 12 fv2, hq_ai xc (G 2) 12 fl2, hq_o7 h lna y rra (nI od) (nI hd) rsa (nI so) z o tl b mma vva wc, hq_aq rra (G 4) 4 fr, hq_o0 y ya yb (nI nc) (hq_z cd), hq_ai ya (G 2) 3 cl, hq_ai yb (G 2) 3 cr] ++ Z) := hD
    refine lv_istore_n (nL := 3) (lv' := [(2, .int 1), (1, .ref x), (0, .ref h)]) hx hb d_H_line_36 rfl hl (by decide) rfl (fun ls hl => ?_)
    refine lv_aload_n hx hb d_H_line_37 rfl (lv_at hl 2 rfl) ?_
    refine va_get (D := D) (ci := 7) (v := .ref lna) (C := R_H) (T := F_H) (N := 14) hx hb hts uw_H hown hK hP 6 rfl rfl 0 (by decide) (hts _ fl_H_12) (fun _ h9 => h9) rfl d_H_line_38 ?_
    have hPc : va_P D hq_cl ([hq_o2 lna ta (nI len) ne2 pn2 lt2 sd2 fc2, hq_ai ta (G 2) 100 t] ++ ([hq_o1 x xa xb xc (nI k2) (hq_z lab2) lb2 im2, hq_ai xa (G 0) 12 fh2, hq_ai xb (G 0) 12 fv2, hq_ai xc (G 2) 12 fl2, hq_o7 h lna y rra (nI od) (nI hd) rsa (nI so) z o tl b mma vva wc, hq_aq rra (G 4) 4 fr, hq_o0 y ya yb (nI nc) (hq_z cd), hq_ai ya (G 2) 3 cl, hq_ai yb (G 2) 3 cr] ++ Z)) H := hP
    have hDc : va_D A ([hq_o2 lna ta (nI len) ne2 pn2 lt2 sd2 fc2, hq_ai ta (G 2) 100 t] ++ ([hq_o1 x xa xb xc (nI k2) (hq_z lab2) lb2 im2, hq_ai xa (G 0) 12 fh2, hq_ai xb (G 0) 12 fv2, hq_ai xc (G 2) 12 fl2, hq_o7 h lna y rra (nI od) (nI hd) rsa (nI so) z o tl b mma vva wc, hq_aq rra (G 4) 4 fr, hq_o0 y ya yb (nI nc) (hq_z cd), hq_ai ya (G 2) 3 cl, hq_ai yb (G 2) 3 cr] ++ Z)) := hD
    refine hq_vF (hq_rV (As := []) (rest := []) hx hb hml hown hts (c_Line_clear l D G A ([hq_o1 x xa xb xc (nI k2) (hq_z lab2) lb2 im2, hq_ai xa (G 0) 12 fh2, hq_ai xb (G 0) 12 fv2, hq_ai xc (G 2) 12 fl2, hq_o7 h lna y rra (nI od) (nI hd) rsa (nI so) z o tl b mma vva wc, hq_aq rra (G 4) 4 fr, hq_o0 y ya yb (nI nc) (hq_z cd), hq_ai ya (G 2) 3 cl, hq_ai yb (G 2) 3 cr] ++ Z) lna ta t len ne2 pn2 lt2 sd2 fc2) yy_Line_clear lk_H_98 hA hK hN hS hPc hDc 0 2 rfl rfl rfl hl.1 rfl (Nat.le_of_ble_eq_true rfl) d_H_line_41 ⟨by decide, by decide⟩ ⟨by decide, by decide⟩) hS (fun H locs hP hD hS => ?_)
    have hP : va_P D hq_cl ([hq_o2 lna ta (nI 0) ne2 pn2 lt2 sd2 fc2, hq_ai ta (G 2) 100 t, hq_o1 x xa xb xc (nI k2) (hq_z lab2) lb2 im2, hq_ai xa (G 0) 12 fh2, hq_ai xb (G 0) 12 fv2, hq_ai xc (G 2) 12 fl2, hq_o7 h lna y rra (nI od) (nI hd) rsa (nI so) z o tl b mma vva wc, hq_aq rra (G 4) 4 fr, hq_o0 y ya yb (nI nc) (hq_z cd), hq_ai ya (G 2) 3 cl, hq_ai yb (G 2) 3 cr] ++ Z) H := hP
    have hD : va_D A ([hq_o2 lna ta (nI 0) ne2 pn2 lt2 sd2 fc2, hq_ai ta (G 2) 100 t, hq_o1 x xa xb xc (nI k2) (hq_z lab2) lb2 im2, hq_ai xa (G 0) 12 fh2, hq_ai xb (G 0) 12 fv2, hq_ai xc (G 2) 12 fl2, hq_o7 h lna y rra (nI od) (nI hd) rsa (nI so) z o tl b mma vva wc, hq_aq rra (G 4) 4 fr, hq_o0 y ya yb (nI nc) (hq_z cd), hq_ai ya (G 2) 3 cl, hq_ai yb (G 2) 3 cr] ++ Z) := hD
    refine lv_iload_n hx hb d_H_line_44 rfl (lv_at hl 0 rfl) ?_
    refine lv_if_ne (tgt := 60) hx hb d_H_line_45 rfl (fun c45 => ?_) (fun c45 => ?_)
    · skip
      refine lv_aload_n hx hb d_H_line_60 rfl (lv_at hl 2 rfl) ?_
      refine lv_dup hx hb d_H_line_61 rfl ?_
      refine va_get (D := D) (ci := 7) (v := .int (nI hd)) (C := R_H) (T := F_H) (N := 14) hx hb hts uw_H hown hK hP 6 rfl rfl 4 (by decide) (hts _ fl_H_33) (fun _ h9 => h9) rfl d_H_line_62 ?_
      refine lv_iconst (v := 1) hx hb d_H_line_65 (by decide) ?_
      refine lv_iadd hx hb d_H_line_66 ?_
      refine hq_topi (x' := nI (hd + 1)) (nI_add hd 1) ?_
      refine va_put (D := D) (ci := 7) (v := .int (nI (hd + 1))) (ty := .int) (C := R_H) (T := F_H) (N := 14) hx hb hts uw_H t_H t_H_ok n_H hown hK hP hD hS 6 rfl rfl 4 (by decide) (hts _ fl_H_33) (fun _ h9 => h9) rfl (by decide +kernel) (rfl) (rfl) (Nat.le_of_ble_eq_true rfl) d_H_line_67 (fun H locs hP hD hS => ?_)
      have hP : va_P D hq_cl ([hq_o2 lna ta (nI 0) ne2 pn2 lt2 sd2 fc2, hq_ai ta (G 2) 100 t, hq_o1 x xa xb xc (nI k2) (hq_z lab2) lb2 im2, hq_ai xa (G 0) 12 fh2, hq_ai xb (G 0) 12 fv2, hq_ai xc (G 2) 12 fl2, hq_o7 h lna y rra (nI od) (nI (hd + 1)) rsa (nI so) z o tl b mma vva wc, hq_aq rra (G 4) 4 fr, hq_o0 y ya yb (nI nc) (hq_z cd), hq_ai ya (G 2) 3 cl, hq_ai yb (G 2) 3 cr] ++ Z) H := hP
      have hD : va_D A ([hq_o2 lna ta (nI 0) ne2 pn2 lt2 sd2 fc2, hq_ai ta (G 2) 100 t, hq_o1 x xa xb xc (nI k2) (hq_z lab2) lb2 im2, hq_ai xa (G 0) 12 fh2, hq_ai xb (G 0) 12 fv2, hq_ai xc (G 2) 12 fl2, hq_o7 h lna y rra (nI od) (nI (hd + 1)) rsa (nI so) z o tl b mma vva wc, hq_aq rra (G 4) 4 fr, hq_o0 y ya yb (nI nc) (hq_z cd), hq_ai ya (G 2) 3 cl, hq_ai yb (G 2) 3 cr] ++ Z) := hD
      refine lv_aload_n hx hb d_H_line_70 rfl (lv_at hl 2 rfl) ?_
      refine va_get (D := D) (ci := 7) (v := .ref y) (C := R_H) (T := F_H) (N := 14) hx hb hts uw_H hown hK hP 6 rfl rfl 1 (by decide) (hts _ fl_H_19) (fun _ h9 => h9) rfl d_H_line_71 ?_
      have hPc : va_P D hq_cl ([hq_o0 y ya yb (nI nc) (hq_z cd), hq_ai ya (G 2) 3 cl, hq_ai yb (G 2) 3 cr] ++ ([hq_o2 lna ta (nI 0) ne2 pn2 lt2 sd2 fc2, hq_ai ta (G 2) 100 t, hq_o1 x xa xb xc (nI k2) (hq_z lab2) lb2 im2, hq_ai xa (G 0) 12 fh2, hq_ai xb (G 0) 12 fv2, hq_ai xc (G 2) 12 fl2, hq_o7 h lna y rra (nI od) (nI (hd + 1)) rsa (nI so) z o tl b mma vva wc, hq_aq rra (G 4) 4 fr] ++ Z)) H := va_P.part (cx := [hq_o0 y ya yb (nI nc) (hq_z cd), hq_ai ya (G 2) 3 cl, hq_ai yb (G 2) 3 cr, hq_o2 lna ta (nI 0) ne2 pn2 lt2 sd2 fc2, hq_ai ta (G 2) 100 t, hq_o1 x xa xb xc (nI k2) (hq_z lab2) lb2 im2, hq_ai xa (G 0) 12 fh2, hq_ai xb (G 0) 12 fv2, hq_ai xc (G 2) 12 fl2, hq_o7 h lna y rra (nI od) (nI (hd + 1)) rsa (nI so) z o tl b mma vva wc, hq_aq rra (G 4) 4 fr]) hP [8, 9, 10, 0, 1, 2, 3, 4, 5, 6, 7] rfl
      have hDc : va_D A ([hq_o0 y ya yb (nI nc) (hq_z cd), hq_ai ya (G 2) 3 cl, hq_ai yb (G 2) 3 cr] ++ ([hq_o2 lna ta (nI 0) ne2 pn2 lt2 sd2 fc2, hq_ai ta (G 2) 100 t, hq_o1 x xa xb xc (nI k2) (hq_z lab2) lb2 im2, hq_ai xa (G 0) 12 fh2, hq_ai xb (G 0) 12 fv2, hq_ai xc (G 2) 12 fl2, hq_o7 h lna y rra (nI od) (nI (hd + 1)) rsa (nI so) z o tl b mma vva wc, hq_aq rra (G 4) 4 fr] ++ Z)) := va_D.part (cx := [hq_o0 y ya yb (nI nc) (hq_z cd), hq_ai ya (G 2) 3 cl, hq_ai yb (G 2) 3 cr, hq_o2 lna ta (nI 0) ne2 pn2 lt2 sd2 fc2, hq_ai ta (G 2) 100 t, hq_o1 x xa xb xc (nI k2) (hq_z lab2) lb2 im2, hq_ai xa (G 0) 12 fh2, hq_ai xb (G 0) 12 fv2, hq_ai xc (G 2) 12 fl2, hq_o7 h lna y rra (nI od) (nI (hd + 1)) rsa (nI so) z o tl b mma vva wc, hq_aq rra (G 4) 4 fr]) hD [8, 9, 10, 0, 1, 2, 3, 4, 5, 6, 7] (by decide) rfl
      refine hq_vF (hq_rV (As := []) (rest := []) hx hb hml hown hts (c_Crossings_close l D G A ([hq_o2 lna ta (nI 0) ne2 pn2 lt2 sd2 fc2, hq_ai ta (G 2) 100 t, hq_o1 x xa xb xc (nI k2) (hq_z lab2) lb2 im2, hq_ai xa (G 0) 12 fh2, hq_ai xb (G 0) 12 fv2, hq_ai xc (G 2) 12 fl2, hq_o7 h lna y rra (nI od) (nI (hd + 1)) rsa (nI so) z o tl b mma vva wc, hq_aq rra (G 4) 4 fr] ++ Z) y ya yb cl cr nc cd) yy_Crossings_close lk_H_101 hA hK hN hS hPc hDc 0 0 rfl rfl rfl hl.1 rfl (Nat.le_of_ble_eq_true rfl) d_H_line_74 ⟨by decide, by decide⟩ ⟨by decide, by decide⟩) hS (fun H locs hP hD hS => ?_)
      have hP : va_P D hq_cl ([hq_o0 y ya yb (nI nc) (hq_z true), hq_ai ya (G 2) 3 cl, hq_ai yb (G 2) 3 cr, hq_o2 lna ta (nI 0) ne2 pn2 lt2 sd2 fc2, hq_ai ta (G 2) 100 t, hq_o1 x xa xb xc (nI k2) (hq_z lab2) lb2 im2, hq_ai xa (G 0) 12 fh2, hq_ai xb (G 0) 12 fv2, hq_ai xc (G 2) 12 fl2, hq_o7 h lna y rra (nI od) (nI (hd + 1)) rsa (nI so) z o tl b mma vva wc, hq_aq rra (G 4) 4 fr] ++ Z) H := hP
      have hD : va_D A ([hq_o0 y ya yb (nI nc) (hq_z true), hq_ai ya (G 2) 3 cl, hq_ai yb (G 2) 3 cr, hq_o2 lna ta (nI 0) ne2 pn2 lt2 sd2 fc2, hq_ai ta (G 2) 100 t, hq_o1 x xa xb xc (nI k2) (hq_z lab2) lb2 im2, hq_ai xa (G 0) 12 fh2, hq_ai xb (G 0) 12 fv2, hq_ai xc (G 2) 12 fl2, hq_o7 h lna y rra (nI od) (nI (hd + 1)) rsa (nI so) z o tl b mma vva wc, hq_aq rra (G 4) 4 fr] ++ Z) := hD
      refine lv_aload_n hx hb d_H_line_77 rfl (lv_at hl 1 rfl) ?_
      refine va_get (D := D) (ci := 1) (v := .int (nI k2)) (C := R_Example) (T := F_Example) (N := 7) hx hb hts uw_Example hown hK hP 5 rfl rfl 3 (by decide) (hts _ fl_H_104) (fun _ h9 => h9) rfl d_H_line_78 ?_
      have hP := va_P.part (cx := [hq_o7 h lna y rra (nI od) (nI (hd + 1)) rsa (nI so) z o tl b mma vva wc, hq_aq rra (G 4) 4 fr, hq_o2 lna ta (nI 0) ne2 pn2 lt2 sd2 fc2, hq_ai ta (G 2) 100 t, hq_o1 x xa xb xc (nI k2) (hq_z lab2) lb2 im2, hq_ai xa (G 0) 12 fh2, hq_ai xb (G 0) 12 fv2, hq_ai xc (G 2) 12 fl2, hq_o0 y ya yb (nI nc) (hq_z true), hq_ai ya (G 2) 3 cl, hq_ai yb (G 2) 3 cr]) hP [9, 10, 3, 4, 5, 6, 7, 8, 0, 1, 2] rfl
      have hD := va_D.part (cx := [hq_o7 h lna y rra (nI od) (nI (hd + 1)) rsa (nI so) z o tl b mma vva wc, hq_aq rra (G 4) 4 fr, hq_o2 lna ta (nI 0) ne2 pn2 lt2 sd2 fc2, hq_ai ta (G 2) 100 t, hq_o1 x xa xb xc (nI k2) (hq_z lab2) lb2 im2, hq_ai xa (G 0) 12 fh2, hq_ai xb (G 0) 12 fv2, hq_ai xc (G 2) 12 fl2, hq_o0 y ya yb (nI nc) (hq_z true), hq_ai ya (G 2) 3 cl, hq_ai yb (G 2) 3 cr]) hD [9, 10, 3, 4, 5, 6, 7, 8, 0, 1, 2] (by decide) rfl
      exact hret (nI k2) ((lab2, lb2, im2), fh2, fv2, fl2, k2, ne2, pn2, lt2, sd2, fc2) H locs 81 ls d_H_line_81 (⟨congrArg nI hr2.1.symm, e1, e2, e3, hr2⟩) hP hD hS
    · exact absurd c45 (by decide)
  · -- 5 not taken
    have c5 : ¬ hd < 4 := fun h => c5 ((nI_ltI (a := hd) (b := 4) (by omega) (by omega)).mpr h)
    exact absurd (by omega) c5
theorem d_H_peek_0 : decode b_H_peek 0 = .ok (.aload_n 0, 1) := by decide +kernel
theorem d_H_peek_1 : decode b_H_peek 1 = .ok (.getfield 33, 3) := by decide +kernel
theorem d_H_peek_4 : decode b_H_peek 4 = .ok (.ifCond .ne (8), 3) := by decide +kernel
theorem d_H_peek_7 : decode b_H_peek 7 = .ok (.ldc 107, 2) := by decide +kernel
theorem d_H_peek_9 : decode b_H_peek 9 = .ok (.goto (16), 3) := by decide +kernel
theorem d_H_peek_12 : decode b_H_peek 12 = .ok (.aload_n 0, 1) := by decide +kernel
theorem d_H_peek_13 : decode b_H_peek 13 = .ok (.aload_n 0, 1) := by decide +kernel
theorem d_H_peek_14 : decode b_H_peek 14 = .ok (.getfield 25, 3) := by decide +kernel
theorem d_H_peek_17 : decode b_H_peek 17 = .ok (.aload_n 0, 1) := by decide +kernel
theorem d_H_peek_18 : decode b_H_peek 18 = .ok (.getfield 29, 3) := by decide +kernel
theorem d_H_peek_21 : decode b_H_peek 21 = .ok (.aaload, 1) := by decide +kernel
theorem d_H_peek_22 : decode b_H_peek 22 = .ok (.invokevirtual 108, 3) := by decide +kernel
theorem d_H_peek_25 : decode b_H_peek 25 = .ok (.ireturn, 1) := by decide +kernel
set_option maxHeartbeats 4000000 in
set_option maxRecDepth 100000 in
theorem c_H_peek_no (l : Launch) (D : va_G) (G : Nat → ClassId) (A : Nat → Prop) (Z : va_W) (h : Nat) (lna : Nat) (y : Nat) (rra : Nat) (od : Nat) (hd : Nat) (rsa : Nat) (so : Nat) (z : Nat) (o : Nat) (tl : Nat) (b : Nat) (mma : Nat) (vva : Nat) (wc : Int32) (hhd : hd = 0) : hq_FI l D G A y_H_peek b_H_peek 1 .int 0 [.ref h] ([hq_o7 h lna y rra (nI od) (nI hd) rsa (nI so) z o tl b mma vva wc] ++ Z) ((-2147483648)) ([hq_o7 h lna y rra (nI od) (nI hd) rsa (nI so) z o tl b mma vva wc] ++ Z) := by
  refine hq_bI (by decide) (Nat.le_of_ble_eq_true rfl) (fun _ _ _ => rfl) ?_
  intro p e s m args below meth c Q hx hb hml hts hown hA hK hN hret ls H locs hl hP hD hS
  have hown : s.vm.findClass "HashedLearner" = some m.cls := hown
  have hl : lv_has ls 1 [(0, .ref h)] := hl
  refine lv_aload_n hx hb d_H_peek_0 rfl (lv_at hl 0 rfl) ?_
  refine va_get (D := D) (ci := 7) (v := .int (nI hd)) (C := R_H) (T := F_H) (N := 14) hx hb hts uw_H hown hK hP 0 rfl rfl 4 (by decide) (hts _ fl_H_33) (fun _ h9 => h9) rfl d_H_peek_1 ?_
  refine lv_if_ne (tgt := 12) hx hb d_H_peek_4 rfl (fun c4 => ?_) (fun c4 => ?_)
  · -- 4 taken
    have c4 : ¬ hd = 0 := fun h => c4 ((nI_eq (a := hd) (b := 0) (by omega) (by omega)).mpr h)
    exact absurd hhd c4
  · -- 4 not taken
    have c4 : hd = 0 := (nI_eq (a := hd) (b := 0) (by omega) (by omega)).mp c4
    refine lv_ldc (v := (-2147483648)) hx hb hown (hts _ ki_H_107) d_H_peek_7 ?_
    refine lv_goto (tgt := 25) hx hb d_H_peek_9 rfl ?_
    exact hret (-2147483648) () H locs 25 ls d_H_peek_25 (by simp [c4]) hP hD hS
theorem d_H_terms_0 : decode b_H_terms 0 = .ok (.aload_n 0, 1) := by decide +kernel
theorem d_H_terms_1 : decode b_H_terms 1 = .ok (.getfield 33, 3) := by decide +kernel
theorem d_H_terms_4 : decode b_H_terms 4 = .ok (.ifCond .ne (5), 3) := by decide +kernel
theorem d_H_terms_7 : decode b_H_terms 7 = .ok (.iconst (-1), 1) := by decide +kernel
theorem d_H_terms_8 : decode b_H_terms 8 = .ok (.ireturn, 1) := by decide +kernel
theorem d_H_terms_9 : decode b_H_terms 9 = .ok (.aload_n 0, 1) := by decide +kernel
theorem d_H_terms_10 : decode b_H_terms 10 = .ok (.getfield 45, 3) := by decide +kernel
theorem d_H_terms_13 : decode b_H_terms 13 = .ok (.aload_n 0, 1) := by decide +kernel
theorem d_H_terms_14 : decode b_H_terms 14 = .ok (.getfield 25, 3) := by decide +kernel
theorem d_H_terms_17 : decode b_H_terms 17 = .ok (.aload_n 0, 1) := by decide +kernel
theorem d_H_terms_18 : decode b_H_terms 18 = .ok (.getfield 29, 3) := by decide +kernel
theorem d_H_terms_21 : decode b_H_terms 21 = .ok (.aaload, 1) := by decide +kernel
theorem d_H_terms_22 : decode b_H_terms 22 = .ok (.aload_n 0, 1) := by decide +kernel
theorem d_H_terms_23 : decode b_H_terms 23 = .ok (.getfield 19, 3) := by decide +kernel
theorem d_H_terms_26 : decode b_H_terms 26 = .ok (.invokevirtual 137, 3) := by decide +kernel
theorem d_H_terms_29 : decode b_H_terms 29 = .ok (.aload_n 0, 1) := by decide +kernel
theorem d_H_terms_30 : decode b_H_terms 30 = .ok (.getfield 45, 3) := by decide +kernel
theorem d_H_terms_33 : decode b_H_terms 33 = .ok (.getfield 141, 3) := by decide +kernel
theorem d_H_terms_36 : decode b_H_terms 36 = .ok (.ireturn, 1) := by decide +kernel
set_option maxHeartbeats 4000000 in
set_option maxRecDepth 100000 in
theorem c_H_terms_no (l : Launch) (D : va_G) (G : Nat → ClassId) (A : Nat → Prop) (Z : va_W) (h : Nat) (lna : Nat) (y : Nat) (rra : Nat) (od : Nat) (hd : Nat) (rsa : Nat) (so : Nat) (z : Nat) (o : Nat) (tl : Nat) (b : Nat) (mma : Nat) (vva : Nat) (wc : Int32) (hhd : hd = 0) : hq_FI l D G A y_H_terms b_H_terms 1 .int 0 [.ref h] ([hq_o7 h lna y rra (nI od) (nI hd) rsa (nI so) z o tl b mma vva wc] ++ Z) ((-1)) ([hq_o7 h lna y rra (nI od) (nI hd) rsa (nI so) z o tl b mma vva wc] ++ Z) := by
  refine hq_bI (by decide) (Nat.le_of_ble_eq_true rfl) (fun _ _ _ => rfl) ?_
  intro p e s m args below meth c Q hx hb hml hts hown hA hK hN hret ls H locs hl hP hD hS
  have hown : s.vm.findClass "HashedLearner" = some m.cls := hown
  have hl : lv_has ls 1 [(0, .ref h)] := hl
  refine lv_aload_n hx hb d_H_terms_0 rfl (lv_at hl 0 rfl) ?_
  refine va_get (D := D) (ci := 7) (v := .int (nI hd)) (C := R_H) (T := F_H) (N := 14) hx hb hts uw_H hown hK hP 0 rfl rfl 4 (by decide) (hts _ fl_H_33) (fun _ h9 => h9) rfl d_H_terms_1 ?_
  refine lv_if_ne (tgt := 9) hx hb d_H_terms_4 rfl (fun c4 => ?_) (fun c4 => ?_)
  · -- 4 taken
    have c4 : ¬ hd = 0 := fun h => c4 ((nI_eq (a := hd) (b := 0) (by omega) (by omega)).mpr h)
    exact absurd hhd c4
  · -- 4 not taken
    have c4 : hd = 0 := (nI_eq (a := hd) (b := 0) (by omega) (by omega)).mp c4
    refine lv_iconst (v := (-1)) hx hb d_H_terms_7 (by decide) ?_
    exact hret (-1) () H locs 8 ls d_H_terms_8 (by simp [c4]) hP hD hS
theorem d_H_learn_0 : decode b_H_learn 0 = .ok (.aload_n 0, 1) := by decide +kernel
theorem d_H_learn_1 : decode b_H_learn 1 = .ok (.getfield 33, 3) := by decide +kernel
theorem d_H_learn_4 : decode b_H_learn 4 = .ok (.ifCond .ne (6), 3) := by decide +kernel
theorem d_H_learn_7 : decode b_H_learn 7 = .ok (.ldc 107, 2) := by decide +kernel
theorem d_H_learn_9 : decode b_H_learn 9 = .ok (.ireturn, 1) := by decide +kernel
theorem d_H_learn_10 : decode b_H_learn 10 = .ok (.aload_n 0, 1) := by decide +kernel
theorem d_H_learn_11 : decode b_H_learn 11 = .ok (.getfield 25, 3) := by decide +kernel
theorem d_H_learn_14 : decode b_H_learn 14 = .ok (.aload_n 0, 1) := by decide +kernel
theorem d_H_learn_15 : decode b_H_learn 15 = .ok (.getfield 29, 3) := by decide +kernel
theorem d_H_learn_18 : decode b_H_learn 18 = .ok (.aaload, 1) := by decide +kernel
theorem d_H_learn_19 : decode b_H_learn 19 = .ok (.astore_n 1, 1) := by decide +kernel
theorem d_H_learn_20 : decode b_H_learn 20 = .ok (.aload_n 0, 1) := by decide +kernel
theorem d_H_learn_21 : decode b_H_learn 21 = .ok (.aload_n 1, 1) := by decide +kernel
theorem d_H_learn_22 : decode b_H_learn 22 = .ok (.invokevirtual 108, 3) := by decide +kernel
theorem d_H_learn_25 : decode b_H_learn 25 = .ok (.istore_n 2, 1) := by decide +kernel
theorem d_H_learn_26 : decode b_H_learn 26 = .ok (.aload_n 1, 1) := by decide +kernel
theorem d_H_learn_27 : decode b_H_learn 27 = .ok (.getfield 112, 3) := by decide +kernel
theorem d_H_learn_30 : decode b_H_learn 30 = .ok (.ifCond .eq (35), 3) := by decide +kernel
theorem d_H_learn_33 : decode b_H_learn 33 = .ok (.aload_n 0, 1) := by decide +kernel
theorem d_H_learn_34 : decode b_H_learn 34 = .ok (.getfield 52, 3) := by decide +kernel
theorem d_H_learn_37 : decode b_H_learn 37 = .ok (.aload_n 0, 1) := by decide +kernel
theorem d_H_learn_38 : decode b_H_learn 38 = .ok (.getfield 74, 3) := by decide +kernel
theorem d_H_learn_41 : decode b_H_learn 41 = .ok (.iload_n 2, 1) := by decide +kernel
theorem d_H_learn_42 : decode b_H_learn 42 = .ok (.aload_n 1, 1) := by decide +kernel
theorem d_H_learn_43 : decode b_H_learn 43 = .ok (.getfield 116, 3) := by decide +kernel
theorem d_H_learn_46 : decode b_H_learn 46 = .ok (.invokevirtual 119, 3) := by decide +kernel
theorem d_H_learn_49 : decode b_H_learn 49 = .ok (.aload_n 1, 1) := by decide +kernel
theorem d_H_learn_50 : decode b_H_learn 50 = .ok (.getfield 123, 3) := by decide +kernel
theorem d_H_learn_53 : decode b_H_learn 53 = .ok (.invokevirtual 126, 3) := by decide +kernel
theorem d_H_learn_56 : decode b_H_learn 56 = .ok (.aload_n 0, 1) := by decide +kernel
theorem d_H_learn_57 : decode b_H_learn 57 = .ok (.aload_n 1, 1) := by decide +kernel
theorem d_H_learn_58 : decode b_H_learn 58 = .ok (.invokevirtual 130, 3) := by decide +kernel
theorem d_H_learn_61 : decode b_H_learn 61 = .ok (.aload_n 0, 1) := by decide +kernel
theorem d_H_learn_62 : decode b_H_learn 62 = .ok (.invokevirtual 134, 3) := by decide +kernel
theorem d_H_learn_65 : decode b_H_learn 65 = .ok (.aload_n 0, 1) := by decide +kernel
theorem d_H_learn_66 : decode b_H_learn 66 = .ok (.aload_n 0, 1) := by decide +kernel
theorem d_H_learn_67 : decode b_H_learn 67 = .ok (.getfield 29, 3) := by decide +kernel
theorem d_H_learn_70 : decode b_H_learn 70 = .ok (.iconst 1, 1) := by decide +kernel
theorem d_H_learn_71 : decode b_H_learn 71 = .ok (.iadd, 1) := by decide +kernel
theorem d_H_learn_72 : decode b_H_learn 72 = .ok (.iconst 4, 1) := by decide +kernel
theorem d_H_learn_73 : decode b_H_learn 73 = .ok (.irem, 1) := by decide +kernel
theorem d_H_learn_74 : decode b_H_learn 74 = .ok (.putfield 29, 3) := by decide +kernel
theorem d_H_learn_77 : decode b_H_learn 77 = .ok (.aload_n 0, 1) := by decide +kernel
theorem d_H_learn_78 : decode b_H_learn 78 = .ok (.dup, 1) := by decide +kernel
theorem d_H_learn_79 : decode b_H_learn 79 = .ok (.getfield 33, 3) := by decide +kernel
theorem d_H_learn_82 : decode b_H_learn 82 = .ok (.iconst 1, 1) := by decide +kernel
theorem d_H_learn_83 : decode b_H_learn 83 = .ok (.isub, 1) := by decide +kernel
theorem d_H_learn_84 : decode b_H_learn 84 = .ok (.putfield 33, 3) := by decide +kernel
theorem d_H_learn_87 : decode b_H_learn 87 = .ok (.iload_n 2, 1) := by decide +kernel
theorem d_H_learn_88 : decode b_H_learn 88 = .ok (.ireturn, 1) := by decide +kernel
set_option maxHeartbeats 4000000 in
set_option maxRecDepth 100000 in
theorem c_H_learn_no (l : Launch) (D : va_G) (G : Nat → ClassId) (A : Nat → Prop) (Z : va_W) (h : Nat) (lna : Nat) (y : Nat) (rra : Nat) (od : Nat) (hd : Nat) (rsa : Nat) (so : Nat) (z : Nat) (o : Nat) (tl : Nat) (b : Nat) (mma : Nat) (vva : Nat) (wc : Int32) (hhd : hd = 0) : hq_FI l D G A y_H_learn b_H_learn 3 .int 0 [.ref h] ([hq_o7 h lna y rra (nI od) (nI hd) rsa (nI so) z o tl b mma vva wc] ++ Z) ((-2147483648)) ([hq_o7 h lna y rra (nI od) (nI hd) rsa (nI so) z o tl b mma vva wc] ++ Z) := by
  refine hq_bI (by decide) (Nat.le_of_ble_eq_true rfl) (fun _ _ _ => rfl) ?_
  intro p e s m args below meth c Q hx hb hml hts hown hA hK hN hret ls H locs hl hP hD hS
  have hown : s.vm.findClass "HashedLearner" = some m.cls := hown
  have hl : lv_has ls 3 [(0, .ref h)] := hl
  refine lv_aload_n hx hb d_H_learn_0 rfl (lv_at hl 0 rfl) ?_
  refine va_get (D := D) (ci := 7) (v := .int (nI hd)) (C := R_H) (T := F_H) (N := 14) hx hb hts uw_H hown hK hP 0 rfl rfl 4 (by decide) (hts _ fl_H_33) (fun _ h9 => h9) rfl d_H_learn_1 ?_
  refine lv_if_ne (tgt := 10) hx hb d_H_learn_4 rfl (fun c4 => ?_) (fun c4 => ?_)
  · -- 4 taken
    have c4 : ¬ hd = 0 := fun h => c4 ((nI_eq (a := hd) (b := 0) (by omega) (by omega)).mpr h)
    exact absurd hhd c4
  · -- 4 not taken
    have c4 : hd = 0 := (nI_eq (a := hd) (b := 0) (by omega) (by omega)).mp c4
    refine lv_ldc (v := (-2147483648)) hx hb hown (hts _ ki_H_107) d_H_learn_7 ?_
    exact hret (-2147483648) () H locs 9 ls d_H_learn_9 (by simp [c4]) hP hD hS
set_option maxHeartbeats 4000000 in
set_option maxRecDepth 100000 in
theorem c_H_peek_do (l : Launch) (D : va_G) (G : Nat → ClassId) (A : Nat → Prop) (Z : va_W) (h : Nat) (lna : Nat) (y : Nat) (rra : Nat) (od : Nat) (hd : Nat) (rsa : Nat) (so : Nat) (z : Nat) (o : Nat) (tl : Nat) (b : Nat) (mma : Nat) (vva : Nat) (wc : Int32) (fr : Nat → Option Nat) (za : Nat) (zb : Nat) (th : Nat → Int32) (tv : Nat → Int32) (q : Nat) (x : Nat) (xa : Nat) (xb : Nat) (xc : Nat) (fh : Nat → Int32) (fv : Nat → Int32) (fl : Nat → Int32) (k : Nat) (lab : Bool) (lb : Int32) (im : Int32) (ya : Nat) (yb : Nat) (cl : Nat → Int32) (cr : Nat → Int32) (nc : Nat) (cd : Bool) (wa : Nat) (sa : Nat) (ca : Nat) (n : Nat) (wt : Nat → Int32) (su : Nat → Int64) (sc : Nat → Int64) (ru : Int32) (hhd : 0 < hd) (hhd4 : hd ≤ 4) (hod : od < 4) (hfr : fr od = some x) (hk : k ≤ 12) (hnc : nc ≤ 3) (hq : (hq_tms fh fv fl k cl cr nc).length ≤ 247) (hn : hq_pow n) : hq_FI l D G A y_H_peek b_H_peek 1 .int 6 [.ref h] ([hq_o7 h lna y rra (nI od) (nI hd) rsa (nI so) z o tl b mma vva wc, hq_aq rra (G 4) 4 fr, hq_o6 z za zb (nI q), hq_ai za (G 0) 247 th, hq_ai zb (G 0) 247 tv, hq_o1 x xa xb xc (nI k) (hq_z lab) lb im, hq_ai xa (G 0) 12 fh, hq_ai xb (G 0) 12 fv, hq_ai xc (G 2) 12 fl, hq_o0 y ya yb (nI nc) (hq_z cd), hq_ai ya (G 2) 3 cl, hq_ai yb (G 2) 3 cr, hq_o4 b wa sa ca ru, hq_ai wa (G 0) n wt, hq_al sa (G 1) n su, hq_al ca (G 1) n sc] ++ Z) (hq_prdL wt n (hq_tms fh fv fl k cl cr nc)) ([hq_o7 h lna y rra (nI od) (nI hd) rsa (nI so) z o tl b mma vva wc, hq_aq rra (G 4) 4 fr, hq_o6 z za zb (nI ((hq_tms fh fv fl k cl cr nc).length)), hq_ai za (G 0) 247 (hq_wr upd th 0 ((hq_tms fh fv fl k cl cr nc).map Prod.fst)), hq_ai zb (G 0) 247 (hq_wr upd tv 0 ((hq_tms fh fv fl k cl cr nc).map Prod.snd)), hq_o1 x xa xb xc (nI k) (hq_z lab) lb im, hq_ai xa (G 0) 12 fh, hq_ai xb (G 0) 12 fv, hq_ai xc (G 2) 12 fl, hq_o0 y ya yb (nI nc) (hq_z cd), hq_ai ya (G 2) 3 cl, hq_ai yb (G 2) 3 cr, hq_o4 b wa sa ca ru, hq_ai wa (G 0) n wt, hq_al sa (G 1) n su, hq_al ca (G 1) n sc] ++ Z) := by
  refine hq_bI (by decide) (Nat.le_of_ble_eq_true rfl) (fun _ _ _ => rfl) ?_
  intro p e s m args below meth c Q hx hb hml hts hown hA hK hN hret ls H locs hl hP hD hS
  have hown : s.vm.findClass "HashedLearner" = some m.cls := hown
  have hl : lv_has ls 1 [(0, .ref h)] := hl
  refine lv_aload_n hx hb d_H_peek_0 rfl (lv_at hl 0 rfl) ?_
  refine va_get (D := D) (ci := 7) (v := .int (nI hd)) (C := R_H) (T := F_H) (N := 14) hx hb hts uw_H hown hK hP 0 rfl rfl 4 (by decide) (hts _ fl_H_33) (fun _ h9 => h9) rfl d_H_peek_1 ?_
  refine lv_if_ne (tgt := 12) hx hb d_H_peek_4 rfl (fun c4 => ?_) (fun c4 => ?_)
  · -- 4 taken
    have c4 : ¬ hd = 0 := fun h => c4 ((nI_eq (a := hd) (b := 0) (by omega) (by omega)).mpr h)
    refine lv_aload_n hx hb d_H_peek_12 rfl (lv_at hl 0 rfl) ?_
    refine lv_aload_n hx hb d_H_peek_13 rfl (lv_at hl 0 rfl) ?_
    refine va_get (D := D) (ci := 7) (v := .ref rra) (C := R_H) (T := F_H) (N := 14) hx hb hts uw_H hown hK hP 0 rfl rfl 2 (by decide) (hts _ fl_H_25) (fun _ h9 => h9) rfl d_H_peek_14 ?_
    refine lv_aload_n hx hb d_H_peek_17 rfl (lv_at hl 0 rfl) ?_
    refine va_get (D := D) (ci := 7) (v := .int (nI od)) (C := R_H) (T := F_H) (N := 14) hx hb hts uw_H hown hK hP 0 rfl rfl 3 (by decide) (hts _ fl_H_29) (fun _ h9 => h9) rfl d_H_peek_18 ?_
    refine hq_aald (j := od) hx hb hK hP 1 4 rfl rfl (by omega) (by omega) d_H_peek_21 ?_
    refine hq_topq (y := x) (hfr) ?_
    have hPc : va_P D hq_cl ([hq_o7 h lna y rra (nI od) (nI hd) rsa (nI so) z o tl b mma vva wc, hq_o6 z za zb (nI q), hq_ai za (G 0) 247 th, hq_ai zb (G 0) 247 tv, hq_o1 x xa xb xc (nI k) (hq_z lab) lb im, hq_ai xa (G 0) 12 fh, hq_ai xb (G 0) 12 fv, hq_ai xc (G 2) 12 fl, hq_o0 y ya yb (nI nc) (hq_z cd), hq_ai ya (G 2) 3 cl, hq_ai yb (G 2) 3 cr, hq_o4 b wa sa ca ru, hq_ai wa (G 0) n wt, hq_al sa (G 1) n su, hq_al ca (G 1) n sc] ++ ([hq_aq rra (G 4) 4 fr] ++ Z)) H := va_P.part (cx := [hq_o7 h lna y rra (nI od) (nI hd) rsa (nI so) z o tl b mma vva wc, hq_o6 z za zb (nI q), hq_ai za (G 0) 247 th, hq_ai zb (G 0) 247 tv, hq_o1 x xa xb xc (nI k) (hq_z lab) lb im, hq_ai xa (G 0) 12 fh, hq_ai xb (G 0) 12 fv, hq_ai xc (G 2) 12 fl, hq_o0 y ya yb (nI nc) (hq_z cd), hq_ai ya (G 2) 3 cl, hq_ai yb (G 2) 3 cr, hq_o4 b wa sa ca ru, hq_ai wa (G 0) n wt, hq_al sa (G 1) n su, hq_al ca (G 1) n sc, hq_aq rra (G 4) 4 fr]) hP [0, 2, 3, 4, 5, 6, 7, 8, 9, 10, 11, 12, 13, 14, 15, 1] rfl
    have hDc : va_D A ([hq_o7 h lna y rra (nI od) (nI hd) rsa (nI so) z o tl b mma vva wc, hq_o6 z za zb (nI q), hq_ai za (G 0) 247 th, hq_ai zb (G 0) 247 tv, hq_o1 x xa xb xc (nI k) (hq_z lab) lb im, hq_ai xa (G 0) 12 fh, hq_ai xb (G 0) 12 fv, hq_ai xc (G 2) 12 fl, hq_o0 y ya yb (nI nc) (hq_z cd), hq_ai ya (G 2) 3 cl, hq_ai yb (G 2) 3 cr, hq_o4 b wa sa ca ru, hq_ai wa (G 0) n wt, hq_al sa (G 1) n su, hq_al ca (G 1) n sc] ++ ([hq_aq rra (G 4) 4 fr] ++ Z)) := va_D.part (cx := [hq_o7 h lna y rra (nI od) (nI hd) rsa (nI so) z o tl b mma vva wc, hq_o6 z za zb (nI q), hq_ai za (G 0) 247 th, hq_ai zb (G 0) 247 tv, hq_o1 x xa xb xc (nI k) (hq_z lab) lb im, hq_ai xa (G 0) 12 fh, hq_ai xb (G 0) 12 fv, hq_ai xc (G 2) 12 fl, hq_o0 y ya yb (nI nc) (hq_z cd), hq_ai ya (G 2) 3 cl, hq_ai yb (G 2) 3 cr, hq_o4 b wa sa ca ru, hq_ai wa (G 0) n wt, hq_al sa (G 1) n su, hq_al ca (G 1) n sc, hq_aq rra (G 4) 4 fr]) hD [0, 2, 3, 4, 5, 6, 7, 8, 9, 10, 11, 12, 13, 14, 15, 1] (by decide) rfl
    refine hq_iF (hq_rV (As := [.ref x]) (rest := []) hx hb hml hown hts (c_H_predictionFor l D G A ([hq_aq rra (G 4) 4 fr] ++ Z) h ([.ref lna, .ref y, .ref rra, .int (nI od), .int (nI hd), .ref rsa, .int (nI so), .ref z, .ref o, .ref tl, .ref b, .ref mma, .ref vva, .int wc]) z za zb th tv q x xa xb xc fh fv fl k lab lb im y ya yb cl cr nc cd b wa sa ca n wt su sc ru (by first | assumption | rfl) (by first | assumption | rfl) (by first | assumption | rfl) (by first | assumption | omega) (by first | assumption | omega) (by first | assumption | omega) (by first | assumption | omega)) yy_H_predictionFor lk_H_108 hA hK hN hS hPc hDc 0 7 rfl rfl rfl hl.1 rfl (Nat.le_of_ble_eq_true rfl) d_H_peek_22 ⟨by decide, by decide⟩ ⟨by decide, by decide⟩) hS (fun H locs hP hD hS => ?_)
    have hP : va_P D hq_cl ([hq_o7 h lna y rra (nI od) (nI hd) rsa (nI so) z o tl b mma vva wc, hq_o6 z za zb (nI ((hq_tms fh fv fl k cl cr nc).length)), hq_ai za (G 0) 247 (hq_wr upd th 0 ((hq_tms fh fv fl k cl cr nc).map Prod.fst)), hq_ai zb (G 0) 247 (hq_wr upd tv 0 ((hq_tms fh fv fl k cl cr nc).map Prod.snd)), hq_o1 x xa xb xc (nI k) (hq_z lab) lb im, hq_ai xa (G 0) 12 fh, hq_ai xb (G 0) 12 fv, hq_ai xc (G 2) 12 fl, hq_o0 y ya yb (nI nc) (hq_z cd), hq_ai ya (G 2) 3 cl, hq_ai yb (G 2) 3 cr, hq_o4 b wa sa ca ru, hq_ai wa (G 0) n wt, hq_al sa (G 1) n su, hq_al ca (G 1) n sc, hq_aq rra (G 4) 4 fr] ++ Z) H := hP
    have hD : va_D A ([hq_o7 h lna y rra (nI od) (nI hd) rsa (nI so) z o tl b mma vva wc, hq_o6 z za zb (nI ((hq_tms fh fv fl k cl cr nc).length)), hq_ai za (G 0) 247 (hq_wr upd th 0 ((hq_tms fh fv fl k cl cr nc).map Prod.fst)), hq_ai zb (G 0) 247 (hq_wr upd tv 0 ((hq_tms fh fv fl k cl cr nc).map Prod.snd)), hq_o1 x xa xb xc (nI k) (hq_z lab) lb im, hq_ai xa (G 0) 12 fh, hq_ai xb (G 0) 12 fv, hq_ai xc (G 2) 12 fl, hq_o0 y ya yb (nI nc) (hq_z cd), hq_ai ya (G 2) 3 cl, hq_ai yb (G 2) 3 cr, hq_o4 b wa sa ca ru, hq_ai wa (G 0) n wt, hq_al sa (G 1) n su, hq_al ca (G 1) n sc, hq_aq rra (G 4) 4 fr] ++ Z) := hD
    have hP := va_P.part (cx := [hq_o7 h lna y rra (nI od) (nI hd) rsa (nI so) z o tl b mma vva wc, hq_aq rra (G 4) 4 fr, hq_o6 z za zb (nI ((hq_tms fh fv fl k cl cr nc).length)), hq_ai za (G 0) 247 (hq_wr upd th 0 ((hq_tms fh fv fl k cl cr nc).map Prod.fst)), hq_ai zb (G 0) 247 (hq_wr upd tv 0 ((hq_tms fh fv fl k cl cr nc).map Prod.snd)), hq_o1 x xa xb xc (nI k) (hq_z lab) lb im, hq_ai xa (G 0) 12 fh, hq_ai xb (G 0) 12 fv, hq_ai xc (G 2) 12 fl, hq_o0 y ya yb (nI nc) (hq_z cd), hq_ai ya (G 2) 3 cl, hq_ai yb (G 2) 3 cr, hq_o4 b wa sa ca ru, hq_ai wa (G 0) n wt, hq_al sa (G 1) n su, hq_al ca (G 1) n sc]) hP [0, 15, 1, 2, 3, 4, 5, 6, 7, 8, 9, 10, 11, 12, 13, 14] rfl
    have hD := va_D.part (cx := [hq_o7 h lna y rra (nI od) (nI hd) rsa (nI so) z o tl b mma vva wc, hq_aq rra (G 4) 4 fr, hq_o6 z za zb (nI ((hq_tms fh fv fl k cl cr nc).length)), hq_ai za (G 0) 247 (hq_wr upd th 0 ((hq_tms fh fv fl k cl cr nc).map Prod.fst)), hq_ai zb (G 0) 247 (hq_wr upd tv 0 ((hq_tms fh fv fl k cl cr nc).map Prod.snd)), hq_o1 x xa xb xc (nI k) (hq_z lab) lb im, hq_ai xa (G 0) 12 fh, hq_ai xb (G 0) 12 fv, hq_ai xc (G 2) 12 fl, hq_o0 y ya yb (nI nc) (hq_z cd), hq_ai ya (G 2) 3 cl, hq_ai yb (G 2) 3 cr, hq_o4 b wa sa ca ru, hq_ai wa (G 0) n wt, hq_al sa (G 1) n su, hq_al ca (G 1) n sc]) hD [0, 15, 1, 2, 3, 4, 5, 6, 7, 8, 9, 10, 11, 12, 13, 14] (by decide) rfl
    exact hret (hq_prdL wt n (hq_tms fh fv fl k cl cr nc)) () H locs 25 ls d_H_peek_25 (by simp [c4]) hP hD hS
  · -- 4 not taken
    have c4 : hd = 0 := (nI_eq (a := hd) (b := 0) (by omega) (by omega)).mp c4
    exact absurd c4 (by omega)
