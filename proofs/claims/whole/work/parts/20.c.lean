theorem d_Line_readNamespace_0 : decode b_Line_readNamespace 0 = .ok (.aload_n 0, 1) := by decide +kernel
theorem d_Line_readNamespace_1 : decode b_Line_readNamespace 1 = .ok (.bipush (32), 2) := by decide +kernel
theorem d_Line_readNamespace_3 : decode b_Line_readNamespace 3 = .ok (.iload_n 1, 1) := by decide +kernel
theorem d_Line_readNamespace_4 : decode b_Line_readNamespace 4 = .ok (.iload_n 2, 1) := by decide +kernel
theorem d_Line_readNamespace_5 : decode b_Line_readNamespace 5 = .ok (.invokevirtual 39, 3) := by decide +kernel
theorem d_Line_readNamespace_8 : decode b_Line_readNamespace 8 = .ok (.istore 4, 2) := by decide +kernel
theorem d_Line_readNamespace_10 : decode b_Line_readNamespace 10 = .ok (.aload_n 0, 1) := by decide +kernel
theorem d_Line_readNamespace_11 : decode b_Line_readNamespace 11 = .ok (.iload_n 1, 1) := by decide +kernel
theorem d_Line_readNamespace_12 : decode b_Line_readNamespace 12 = .ok (.iload 4, 2) := by decide +kernel
theorem d_Line_readNamespace_14 : decode b_Line_readNamespace 14 = .ok (.invokevirtual 77, 3) := by decide +kernel
theorem d_Line_readNamespace_17 : decode b_Line_readNamespace 17 = .ok (.ifCond .ne (5), 3) := by decide +kernel
theorem d_Line_readNamespace_20 : decode b_Line_readNamespace 20 = .ok (.iconst 0, 1) := by decide +kernel
theorem d_Line_readNamespace_21 : decode b_Line_readNamespace 21 = .ok (.ireturn, 1) := by decide +kernel
theorem d_Line_readNamespace_22 : decode b_Line_readNamespace 22 = .ok (.aload_n 0, 1) := by decide +kernel
theorem d_Line_readNamespace_23 : decode b_Line_readNamespace 23 = .ok (.iload 4, 2) := by decide +kernel
theorem d_Line_readNamespace_25 : decode b_Line_readNamespace 25 = .ok (.iload_n 2, 1) := by decide +kernel
theorem d_Line_readNamespace_26 : decode b_Line_readNamespace 26 = .ok (.invokevirtual 56, 3) := by decide +kernel
theorem d_Line_readNamespace_29 : decode b_Line_readNamespace 29 = .ok (.istore 5, 2) := by decide +kernel
theorem d_Line_readNamespace_31 : decode b_Line_readNamespace 31 = .ok (.iconst 0, 1) := by decide +kernel
theorem d_Line_readNamespace_32 : decode b_Line_readNamespace 32 = .ok (.istore 6, 2) := by decide +kernel
theorem d_Line_readNamespace_34 : decode b_Line_readNamespace 34 = .ok (.iload 6, 2) := by decide +kernel
theorem d_Line_readNamespace_36 : decode b_Line_readNamespace 36 = .ok (.bipush (12), 2) := by decide +kernel
theorem d_Line_readNamespace_38 : decode b_Line_readNamespace 38 = .ok (.if_icmp .ge (49), 3) := by decide +kernel
theorem d_Line_readNamespace_41 : decode b_Line_readNamespace 41 = .ok (.iload 5, 2) := by decide +kernel
theorem d_Line_readNamespace_43 : decode b_Line_readNamespace 43 = .ok (.iload_n 2, 1) := by decide +kernel
theorem d_Line_readNamespace_44 : decode b_Line_readNamespace 44 = .ok (.if_icmp .ge (43), 3) := by decide +kernel
theorem d_Line_readNamespace_47 : decode b_Line_readNamespace 47 = .ok (.aload_n 0, 1) := by decide +kernel
theorem d_Line_readNamespace_48 : decode b_Line_readNamespace 48 = .ok (.bipush (32), 2) := by decide +kernel
theorem d_Line_readNamespace_50 : decode b_Line_readNamespace 50 = .ok (.iload 5, 2) := by decide +kernel
theorem d_Line_readNamespace_52 : decode b_Line_readNamespace 52 = .ok (.iload_n 2, 1) := by decide +kernel
theorem d_Line_readNamespace_53 : decode b_Line_readNamespace 53 = .ok (.invokevirtual 39, 3) := by decide +kernel
theorem d_Line_readNamespace_56 : decode b_Line_readNamespace 56 = .ok (.istore 7, 2) := by decide +kernel
theorem d_Line_readNamespace_58 : decode b_Line_readNamespace 58 = .ok (.aload_n 0, 1) := by decide +kernel
theorem d_Line_readNamespace_59 : decode b_Line_readNamespace 59 = .ok (.iload 5, 2) := by decide +kernel
theorem d_Line_readNamespace_61 : decode b_Line_readNamespace 61 = .ok (.iload 7, 2) := by decide +kernel
theorem d_Line_readNamespace_63 : decode b_Line_readNamespace 63 = .ok (.aload_n 3, 1) := by decide +kernel
theorem d_Line_readNamespace_64 : decode b_Line_readNamespace 64 = .ok (.invokevirtual 81, 3) := by decide +kernel
theorem d_Line_readNamespace_67 : decode b_Line_readNamespace 67 = .ok (.ifCond .ne (5), 3) := by decide +kernel
theorem d_Line_readNamespace_70 : decode b_Line_readNamespace 70 = .ok (.iconst 0, 1) := by decide +kernel
theorem d_Line_readNamespace_71 : decode b_Line_readNamespace 71 = .ok (.ireturn, 1) := by decide +kernel
theorem d_Line_readNamespace_72 : decode b_Line_readNamespace 72 = .ok (.aload_n 0, 1) := by decide +kernel
theorem d_Line_readNamespace_73 : decode b_Line_readNamespace 73 = .ok (.iload 7, 2) := by decide +kernel
theorem d_Line_readNamespace_75 : decode b_Line_readNamespace 75 = .ok (.iload_n 2, 1) := by decide +kernel
theorem d_Line_readNamespace_76 : decode b_Line_readNamespace 76 = .ok (.invokevirtual 56, 3) := by decide +kernel
theorem d_Line_readNamespace_79 : decode b_Line_readNamespace 79 = .ok (.istore 5, 2) := by decide +kernel
theorem d_Line_readNamespace_81 : decode b_Line_readNamespace 81 = .ok (.iinc 6 (1), 3) := by decide +kernel
theorem d_Line_readNamespace_84 : decode b_Line_readNamespace 84 = .ok (.goto (-50), 3) := by decide +kernel
theorem d_Line_readNamespace_87 : decode b_Line_readNamespace 87 = .ok (.iload 5, 2) := by decide +kernel
theorem d_Line_readNamespace_89 : decode b_Line_readNamespace 89 = .ok (.iload_n 2, 1) := by decide +kernel
theorem d_Line_readNamespace_90 : decode b_Line_readNamespace 90 = .ok (.if_icmp .ne (7), 3) := by decide +kernel
theorem d_Line_readNamespace_93 : decode b_Line_readNamespace 93 = .ok (.iconst 1, 1) := by decide +kernel
theorem d_Line_readNamespace_94 : decode b_Line_readNamespace 94 = .ok (.goto (4), 3) := by decide +kernel
theorem d_Line_readNamespace_97 : decode b_Line_readNamespace 97 = .ok (.iconst 0, 1) := by decide +kernel
theorem d_Line_readNamespace_98 : decode b_Line_readNamespace 98 = .ok (.ireturn, 1) := by decide +kernel
set_option maxHeartbeats 4000000 in
set_option maxRecDepth 100000 in
theorem c_Line_readNamespace (l : Launch) (D : va_G) (G : Nat → ClassId) (A : Nat → Prop) (Z : va_W) (h : Nat) (ta : Nat) (t : Nat → Int32) (len : Nat) (ne : Int32) (pn : Int32) (lt : Int32) (sd : Int32) (fc : Int32) (x : Nat) (xa : Nat) (xb : Nat) (xc : Nat) (fh : Nat → Int32) (fv : Nat → Int32) (fl : Nat → Int32) (k : Nat) (lab : Bool) (lb : Int32) (im : Int32) (i : Nat) (j : Nat) (Lf : List (Int32 × Int32 × Int32)) (hlen : len ≤ 100) (hj : j ≤ len) (hi : i ≤ j) (ht : ∀ q, q < len → hq_ch (t q)) (hk : k ≤ 12) (hrep : hq_rep Lf fh fv fl k) : hq_MI l D G A y_Line_readNamespace b_Line_readNamespace 8 .boolean 4 0 0 [.ref h, .int (nI i), .int (nI j), .ref x] ([hq_o2 h ta (nI len) ne pn lt sd fc, hq_ai ta (G 2) 100 t, hq_o1 x xa xb xc (nI k) (hq_z lab) lb im, hq_ai xa (G 0) 12 fh, hq_ai xb (G 0) 12 fv, hq_ai xc (G 2) 12 fl] ++ Z) (fun r (u : (Nat → Int32) × (Nat → Int32) × (Nat → Int32) × Nat × Int32 × Int32 × Int32 × Int32 × Int32) => r = hq_z (hq_nsp t i j Lf).isSome ∧ u.2.2.2.1 ≤ 12 ∧ ∀ L9, hq_nsp t i j Lf = some L9 → hq_rep L9 u.1 u.2.1 u.2.2.1 u.2.2.2.1) (fun (u : (Nat → Int32) × (Nat → Int32) × (Nat → Int32) × Nat × Int32 × Int32 × Int32 × Int32 × Int32) => [hq_o2 h ta (nI len) u.2.2.2.2.1 u.2.2.2.2.2.1 u.2.2.2.2.2.2.1 u.2.2.2.2.2.2.2.1 u.2.2.2.2.2.2.2.2, hq_ai ta (G 2) 100 t, hq_o1 x xa xb xc (nI u.2.2.2.1) (hq_z lab) lb im, hq_ai xa (G 0) 12 u.1, hq_ai xb (G 0) 12 u.2.1, hq_ai xc (G 2) 12 u.2.2.1] ++ Z) := by
  refine hq_bI (by decide) (Nat.le_of_ble_eq_true rfl) (fun r u h => by rw [h.1]; exact hq_znar _) ?_
  intro p e s m args below meth c Q hx hb hml hts hown hA hK hN hret ls H locs hl hP hD hS
  have hown : s.vm.findClass "HashedLearner$Line" = some m.cls := hown
  have hl : lv_has ls 8 [(0, .ref h), (1, .int (nI i)), (2, .int (nI j)), (3, .ref x)] := hl
  refine lv_aload_n hx hb d_Line_readNamespace_0 rfl (lv_at hl 0 rfl) ?_
  refine lv_bipush (v := 32) hx hb d_Line_readNamespace_1 (by decide) ?_
  refine lv_iload_n hx hb d_Line_readNamespace_3 rfl (lv_at hl 1 rfl) ?_
  refine lv_iload_n hx hb d_Line_readNamespace_4 rfl (lv_at hl 2 rfl) ?_
  have hPc : va_P D hq_cl ([hq_o2 h ta (nI len) ne pn lt sd fc, hq_ai ta (G 2) 100 t] ++ ([hq_o1 x xa xb xc (nI k) (hq_z lab) lb im, hq_ai xa (G 0) 12 fh, hq_ai xb (G 0) 12 fv, hq_ai xc (G 2) 12 fl] ++ Z)) H := hP
  have hDc : va_D A ([hq_o2 h ta (nI len) ne pn lt sd fc, hq_ai ta (G 2) 100 t] ++ ([hq_o1 x xa xb xc (nI k) (hq_z lab) lb im, hq_ai xa (G 0) 12 fh, hq_ai xb (G 0) 12 fv, hq_ai xc (G 2) 12 fl] ++ Z)) := hD
  refine hq_iF (hq_rV (As := [.int 32, .int (nI i), .int (nI j)]) (rest := []) hx hb hml hown hts (c_Line_find l D G A ([hq_o1 x xa xb xc (nI k) (hq_z lab) lb im, hq_ai xa (G 0) 12 fh, hq_ai xb (G 0) 12 fv, hq_ai xc (G 2) 12 fl] ++ Z) h ta t len ne pn lt sd fc 32 i j (by first | assumption | omega) (by first | assumption | omega)) yy_Line_find lk_Line_39 hA hK hN hS hPc hDc 0 2 rfl rfl rfl hl.1 rfl (Nat.le_of_ble_eq_true rfl) d_Line_readNamespace_5 ⟨by decide, by decide⟩ ⟨by decide, by decide⟩) hS (fun H locs hP hD hS => ?_)
  have hP : va_P D hq_cl ([hq_o2 h ta (nI len) ne pn lt sd fc, hq_ai ta (G 2) 100 t, hq_o1 x xa xb xc (nI k) (hq_z lab) lb im, hq_ai xa (G 0) 12 fh, hq_ai xb (G 0) 12 fv, hq_ai xc (G 2) 12 fl] ++ Z) H := hP
  have hD : va_D A ([hq_o2 h ta (nI len) ne pn lt sd fc, hq_ai ta (G 2) 100 t, hq_o1 x xa xb xc (nI k) (hq_z lab) lb im, hq_ai xa (G 0) 12 fh, hq_ai xb (G 0) 12 fv, hq_ai xc (G 2) 12 fl] ++ Z) := hD
  have hp := hq_fnd_le t 32 (j - i) i
  refine lv_istore (nL := 8) (lv' := [(4, .int (nI (hq_fnd t 32 i (j - i)))), (0, .ref h), (1, .int (nI i)), (2, .int (nI j)), (3, .ref x)]) hx hb d_Line_readNamespace_8 hl (by decide) rfl (fun ls hl => ?_)
  refine lv_aload_n hx hb d_Line_readNamespace_10 rfl (lv_at hl 1 rfl) ?_
  refine lv_iload_n hx hb d_Line_readNamespace_11 rfl (lv_at hl 2 rfl) ?_
  refine lv_iload hx hb d_Line_readNamespace_12 (lv_at hl 0 rfl) ?_
  have hPc : va_P D hq_cl ([hq_o2 h ta (nI len) ne pn lt sd fc, hq_ai ta (G 2) 100 t] ++ ([hq_o1 x xa xb xc (nI k) (hq_z lab) lb im, hq_ai xa (G 0) 12 fh, hq_ai xb (G 0) 12 fv, hq_ai xc (G 2) 12 fl] ++ Z)) H := hP
  have hDc : va_D A ([hq_o2 h ta (nI len) ne pn lt sd fc, hq_ai ta (G 2) 100 t] ++ ([hq_o1 x xa xb xc (nI k) (hq_z lab) lb im, hq_ai xa (G 0) 12 fh, hq_ai xb (G 0) 12 fv, hq_ai xc (G 2) 12 fl] ++ Z)) := hD
  refine hq_iF (hq_rV (As := [.int (nI i), .int (nI (hq_fnd t 32 i (j - i)))]) (rest := []) hx hb hml hown hts (c_Line_readTitle l D G A ([hq_o1 x xa xb xc (nI k) (hq_z lab) lb im, hq_ai xa (G 0) 12 fh, hq_ai xb (G 0) 12 fv, hq_ai xc (G 2) 12 fl] ++ Z) h ta t len ne pn lt sd fc i (hq_fnd t 32 i (j - i)) (by first | assumption | omega) (by first | assumption | omega) (by first | assumption | omega) (by first | assumption | omega)) yy_Line_readTitle lk_Line_77 hA hK hN hS hPc hDc 0 2 rfl rfl rfl hl.1 rfl (Nat.le_of_ble_eq_true rfl) d_Line_readNamespace_14 ⟨by decide, by decide⟩ ⟨by decide, by decide⟩) hS (fun H locs hP hD hS => ?_)
  have hP : va_P D hq_cl ([hq_o2 h ta (nI len) (f_Line_readTitle_o1 t i (hq_fnd t 32 i (j - i)) ne pn) (f_Line_readTitle_o2 t i (hq_fnd t 32 i (j - i)) ne pn) (f_Line_readTitle_o3 t i (hq_fnd t 32 i (j - i)) ne pn) (f_Line_readTitle_o4 t i (hq_fnd t 32 i (j - i)) ne pn) (f_Line_readTitle_o5 t i (hq_fnd t 32 i (j - i)) ne pn), hq_ai ta (G 2) 100 t, hq_o1 x xa xb xc (nI k) (hq_z lab) lb im, hq_ai xa (G 0) 12 fh, hq_ai xb (G 0) 12 fv, hq_ai xc (G 2) 12 fl] ++ Z) H := hP
  have hD : va_D A ([hq_o2 h ta (nI len) (f_Line_readTitle_o1 t i (hq_fnd t 32 i (j - i)) ne pn) (f_Line_readTitle_o2 t i (hq_fnd t 32 i (j - i)) ne pn) (f_Line_readTitle_o3 t i (hq_fnd t 32 i (j - i)) ne pn) (f_Line_readTitle_o4 t i (hq_fnd t 32 i (j - i)) ne pn) (f_Line_readTitle_o5 t i (hq_fnd t 32 i (j - i)) ne pn), hq_ai ta (G 2) 100 t, hq_o1 x xa xb xc (nI k) (hq_z lab) lb im, hq_ai xa (G 0) 12 fh, hq_ai xb (G 0) 12 fv, hq_ai xc (G 2) 12 fl] ++ Z) := hD
  refine lv_if_ne (tgt := 22) hx hb d_Line_readNamespace_17 rfl (fun c17 => ?_) (fun c17 => ?_)
  · -- 17 taken
    have c17 : (f_Line_readTitle t i (hq_fnd t 32 i (j - i)) ne pn) = true := hq_zn.mp c17
    refine lv_aload_n hx hb d_Line_readNamespace_22 rfl (lv_at hl 1 rfl) ?_
    refine lv_iload hx hb d_Line_readNamespace_23 (lv_at hl 0 rfl) ?_
    refine lv_iload_n hx hb d_Line_readNamespace_25 rfl (lv_at hl 3 rfl) ?_
    have hPc : va_P D hq_cl ([hq_o2 h ta (nI len) (f_Line_readTitle_o1 t i (hq_fnd t 32 i (j - i)) ne pn) (f_Line_readTitle_o2 t i (hq_fnd t 32 i (j - i)) ne pn) (f_Line_readTitle_o3 t i (hq_fnd t 32 i (j - i)) ne pn) (f_Line_readTitle_o4 t i (hq_fnd t 32 i (j - i)) ne pn) (f_Line_readTitle_o5 t i (hq_fnd t 32 i (j - i)) ne pn), hq_ai ta (G 2) 100 t] ++ ([hq_o1 x xa xb xc (nI k) (hq_z lab) lb im, hq_ai xa (G 0) 12 fh, hq_ai xb (G 0) 12 fv, hq_ai xc (G 2) 12 fl] ++ Z)) H := hP
    have hDc : va_D A ([hq_o2 h ta (nI len) (f_Line_readTitle_o1 t i (hq_fnd t 32 i (j - i)) ne pn) (f_Line_readTitle_o2 t i (hq_fnd t 32 i (j - i)) ne pn) (f_Line_readTitle_o3 t i (hq_fnd t 32 i (j - i)) ne pn) (f_Line_readTitle_o4 t i (hq_fnd t 32 i (j - i)) ne pn) (f_Line_readTitle_o5 t i (hq_fnd t 32 i (j - i)) ne pn), hq_ai ta (G 2) 100 t] ++ ([hq_o1 x xa xb xc (nI k) (hq_z lab) lb im, hq_ai xa (G 0) 12 fh, hq_ai xb (G 0) 12 fv, hq_ai xc (G 2) 12 fl] ++ Z)) := hD
    refine hq_iF (hq_rV (As := [.int (nI (hq_fnd t 32 i (j - i))), .int (nI j)]) (rest := []) hx hb hml hown hts (c_Line_skipSpaces l D G A ([hq_o1 x xa xb xc (nI k) (hq_z lab) lb im, hq_ai xa (G 0) 12 fh, hq_ai xb (G 0) 12 fv, hq_ai xc (G 2) 12 fl] ++ Z) h ta t len (f_Line_readTitle_o1 t i (hq_fnd t 32 i (j - i)) ne pn) (f_Line_readTitle_o2 t i (hq_fnd t 32 i (j - i)) ne pn) (f_Line_readTitle_o3 t i (hq_fnd t 32 i (j - i)) ne pn) (f_Line_readTitle_o4 t i (hq_fnd t 32 i (j - i)) ne pn) (f_Line_readTitle_o5 t i (hq_fnd t 32 i (j - i)) ne pn) (hq_fnd t 32 i (j - i)) j (by first | assumption | omega) (by first | assumption | omega)) yy_Line_skipSpaces lk_Line_56 hA hK hN hS hPc hDc 0 2 rfl rfl rfl hl.1 rfl (Nat.le_of_ble_eq_true rfl) d_Line_readNamespace_26 ⟨by decide, by decide⟩ ⟨by decide, by decide⟩) hS (fun H locs hP hD hS => ?_)
    have hP : va_P D hq_cl ([hq_o2 h ta (nI len) (f_Line_readTitle_o1 t i (hq_fnd t 32 i (j - i)) ne pn) (f_Line_readTitle_o2 t i (hq_fnd t 32 i (j - i)) ne pn) (f_Line_readTitle_o3 t i (hq_fnd t 32 i (j - i)) ne pn) (f_Line_readTitle_o4 t i (hq_fnd t 32 i (j - i)) ne pn) (f_Line_readTitle_o5 t i (hq_fnd t 32 i (j - i)) ne pn), hq_ai ta (G 2) 100 t, hq_o1 x xa xb xc (nI k) (hq_z lab) lb im, hq_ai xa (G 0) 12 fh, hq_ai xb (G 0) 12 fv, hq_ai xc (G 2) 12 fl] ++ Z) H := hP
    have hD : va_D A ([hq_o2 h ta (nI len) (f_Line_readTitle_o1 t i (hq_fnd t 32 i (j - i)) ne pn) (f_Line_readTitle_o2 t i (hq_fnd t 32 i (j - i)) ne pn) (f_Line_readTitle_o3 t i (hq_fnd t 32 i (j - i)) ne pn) (f_Line_readTitle_o4 t i (hq_fnd t 32 i (j - i)) ne pn) (f_Line_readTitle_o5 t i (hq_fnd t 32 i (j - i)) ne pn), hq_ai ta (G 2) 100 t, hq_o1 x xa xb xc (nI k) (hq_z lab) lb im, hq_ai xa (G 0) 12 fh, hq_ai xb (G 0) 12 fv, hq_ai xc (G 2) 12 fl] ++ Z) := hD
    have hp1 := hq_skp_le t 32 (j - (hq_fnd t 32 i (j - i))) (hq_fnd t 32 i (j - i))
    refine lv_istore (nL := 8) (lv' := [(5, .int (nI (hq_skp t 32 (hq_fnd t 32 i (j - i)) (j - (hq_fnd t 32 i (j - i)))))), (4, .int (nI (hq_fnd t 32 i (j - i)))), (0, .ref h), (1, .int (nI i)), (2, .int (nI j)), (3, .ref x)]) hx hb d_Line_readNamespace_29 hl (by decide) rfl (fun ls hl => ?_)
    refine lv_iconst (v := nI 0) hx hb d_Line_readNamespace_31 (by decide) ?_
    refine lv_istore (nL := 8) (lv' := [(6, .int (nI 0)), (5, .int (nI (hq_skp t 32 (hq_fnd t 32 i (j - i)) (j - (hq_fnd t 32 i (j - i)))))), (4, .int (nI (hq_fnd t 32 i (j - i)))), (0, .ref h), (1, .int (nI i)), (2, .int (nI j)), (3, .ref x)]) hx hb d_Line_readNamespace_32 hl (by decide) rfl (fun ls hl => ?_)
    have cut34 : ∀ (kz : Nat) (n : Nat) (a : Nat) (ne1 : Int32) (pn1 : Int32) (lt1 : Int32) (sd1 : Int32) (fc1 : Int32) (fh1 : Nat → Int32) (fv1 : Nat → Int32) (fl1 : Nat → Int32) (k1 : Nat) (L1 : List (Int32 × Int32 × Int32)) (ls : Array Slot) (H : Heap) (locs : List Loc), 12 - n = kz → (n ≤ 12) → (a ≤ j) → (k1 ≤ 12) → (hq_ch lt1) → (hq_rep L1 fh1 fv1 fl1 k1) → (hq_nsp t i j Lf = hq_fts t lt1 sd1 fc1 j (12 - n) a L1) → lv_has ls 8 [(0, .ref h), (2, .int (nI j)), (3, .ref x), (5, .int (nI a)), (6, .int (nI n))] → va_P D hq_cl ([hq_o2 h ta (nI len) ne1 pn1 lt1 sd1 fc1, hq_ai ta (G 2) 100 t, hq_o1 x xa xb xc (nI k1) (hq_z lab) lb im, hq_ai xa (G 0) 12 fh1, hq_ai xb (G 0) 12 fv1, hq_ai xc (G 2) 12 fl1] ++ Z) H → va_D A ([hq_o2 h ta (nI len) ne1 pn1 lt1 sd1 fc1, hq_ai ta (G 2) 100 t, hq_o1 x xa xb xc (nI k1) (hq_z lab) lb im, hq_ai xa (G 0) 12 fh1, hq_ai xb (G 0) 12 fv1, hq_ai xc (G 2) 12 fl1] ++ Z) → va_S A s.heap H locs → W p l e (hq_rm 4 0 0) s m args below meth c H locs 0 0 Q (F0 m 34 ls []) := by
      intro kz
      induction kz using Nat.strongRecOn with
      | ind kz ih =>
        intro n a ne1 pn1 lt1 sd1 fc1 fh1 fv1 fl1 k1 L1 ls H locs hkz hn12 haj hk1 hlt1 hr1 hF hl hP hD hS
        subst hkz
        refine lv_iload hx hb d_Line_readNamespace_34 (lv_at hl 4 rfl) ?_
        refine lv_bipush (v := 12) hx hb d_Line_readNamespace_36 (by decide) ?_
        refine lv_icmp_ge (tgt := 87) hx hb d_Line_readNamespace_38 rfl (fun c38 => ?_) (fun c38 => ?_)
        · -- 38 taken
          have c38 : 12 ≤ n := (nI_leI (a := 12) (b := n) (by omega) (by omega)).mp c38
          refine lv_iload hx hb d_Line_readNamespace_87 (lv_at hl 3 rfl) ?_
          refine lv_iload_n hx hb d_Line_readNamespace_89 rfl (lv_at hl 1 rfl) ?_
          refine lv_icmp_ne (tgt := 97) hx hb d_Line_readNamespace_90 rfl (fun c90 => ?_) (fun c90 => ?_)
          · -- 90 taken
            have c90 : ¬ a = j := fun h => c90 ((nI_eq (a := a) (b := j) (by omega) (by omega)).mpr h)
            refine lv_iconst (v := 0) hx hb d_Line_readNamespace_97 (by decide) ?_
            exact hret 0 (fh1, fv1, fl1, k1, ne1, pn1, lt1, sd1, fc1) H locs 98 ls d_Line_readNamespace_98 (⟨by rw [hF, hq_fts_stop (n := n) (j := j) (a := a) (by omega), if_neg c90] <;> rfl, hk1, fun L9 h9 => by rw [hF, hq_fts_stop (n := n) (j := j) (a := a) (by omega), if_neg c90] at h9; cases h9 <;> exact hr1⟩) hP hD hS
          · -- 90 not taken
            have c90 : a = j := (nI_eq (a := a) (b := j) (by omega) (by omega)).mp c90
            refine lv_iconst (v := 1) hx hb d_Line_readNamespace_93 (by decide) ?_
            refine lv_goto (tgt := 98) hx hb d_Line_readNamespace_94 rfl ?_
            exact hret 1 (fh1, fv1, fl1, k1, ne1, pn1, lt1, sd1, fc1) H locs 98 ls d_Line_readNamespace_98 (⟨by rw [hF, hq_fts_stop (n := n) (j := j) (a := a) (by omega), if_pos c90] <;> rfl, hk1, fun L9 h9 => by rw [hF, hq_fts_stop (n := n) (j := j) (a := a) (by omega), if_pos c90] at h9; cases h9 <;> exact hr1⟩) hP hD hS
        · -- 38 not taken
          have c38 : ¬ 12 ≤ n := fun h => c38 ((nI_leI (a := 12) (b := n) (by omega) (by omega)).mpr h)
          refine lv_iload hx hb d_Line_readNamespace_41 (lv_at hl 3 rfl) ?_
          refine lv_iload_n hx hb d_Line_readNamespace_43 rfl (lv_at hl 1 rfl) ?_
          refine lv_icmp_ge (tgt := 87) hx hb d_Line_readNamespace_44 rfl (fun c44 => ?_) (fun c44 => ?_)
          · -- 44 taken
            have c44 : j ≤ a := (nI_leI (a := j) (b := a) (by omega) (by omega)).mp c44
            refine lv_iload hx hb d_Line_readNamespace_87 (lv_at hl 3 rfl) ?_
            refine lv_iload_n hx hb d_Line_readNamespace_89 rfl (lv_at hl 1 rfl) ?_
            refine lv_icmp_ne (tgt := 97) hx hb d_Line_readNamespace_90 rfl (fun c90 => ?_) (fun c90 => ?_)
            · -- 90 taken
              have c90 : ¬ a = j := fun h => c90 ((nI_eq (a := a) (b := j) (by omega) (by omega)).mpr h)
              refine lv_iconst (v := 0) hx hb d_Line_readNamespace_97 (by decide) ?_
              exact hret 0 (fh1, fv1, fl1, k1, ne1, pn1, lt1, sd1, fc1) H locs 98 ls d_Line_readNamespace_98 (⟨by rw [hF, hq_fts_stop (n := n) (j := j) (a := a) (by omega), if_neg c90] <;> rfl, hk1, fun L9 h9 => by rw [hF, hq_fts_stop (n := n) (j := j) (a := a) (by omega), if_neg c90] at h9; cases h9 <;> exact hr1⟩) hP hD hS
            · -- 90 not taken
              have c90 : a = j := (nI_eq (a := a) (b := j) (by omega) (by omega)).mp c90
              refine lv_iconst (v := 1) hx hb d_Line_readNamespace_93 (by decide) ?_
              refine lv_goto (tgt := 98) hx hb d_Line_readNamespace_94 rfl ?_
              exact hret 1 (fh1, fv1, fl1, k1, ne1, pn1, lt1, sd1, fc1) H locs 98 ls d_Line_readNamespace_98 (⟨by rw [hF, hq_fts_stop (n := n) (j := j) (a := a) (by omega), if_pos c90] <;> rfl, hk1, fun L9 h9 => by rw [hF, hq_fts_stop (n := n) (j := j) (a := a) (by omega), if_pos c90] at h9; cases h9 <;> exact hr1⟩) hP hD hS
          · -- 44 not taken
            have c44 : ¬ j ≤ a := fun h => c44 ((nI_leI (a := j) (b := a) (by omega) (by omega)).mpr h)
            refine lv_aload_n hx hb d_Line_readNamespace_47 rfl (lv_at hl 0 rfl) ?_
            refine lv_bipush (v := 32) hx hb d_Line_readNamespace_48 (by decide) ?_
            refine lv_iload hx hb d_Line_readNamespace_50 (lv_at hl 3 rfl) ?_
            refine lv_iload_n hx hb d_Line_readNamespace_52 rfl (lv_at hl 1 rfl) ?_
            have hPc : va_P D hq_cl ([hq_o2 h ta (nI len) ne1 pn1 lt1 sd1 fc1, hq_ai ta (G 2) 100 t] ++ ([hq_o1 x xa xb xc (nI k1) (hq_z lab) lb im, hq_ai xa (G 0) 12 fh1, hq_ai xb (G 0) 12 fv1, hq_ai xc (G 2) 12 fl1] ++ Z)) H := hP
            have hDc : va_D A ([hq_o2 h ta (nI len) ne1 pn1 lt1 sd1 fc1, hq_ai ta (G 2) 100 t] ++ ([hq_o1 x xa xb xc (nI k1) (hq_z lab) lb im, hq_ai xa (G 0) 12 fh1, hq_ai xb (G 0) 12 fv1, hq_ai xc (G 2) 12 fl1] ++ Z)) := hD
            refine hq_iF (hq_rV (As := [.int 32, .int (nI a), .int (nI j)]) (rest := []) hx hb hml hown hts (c_Line_find l D G A ([hq_o1 x xa xb xc (nI k1) (hq_z lab) lb im, hq_ai xa (G 0) 12 fh1, hq_ai xb (G 0) 12 fv1, hq_ai xc (G 2) 12 fl1] ++ Z) h ta t len ne1 pn1 lt1 sd1 fc1 32 a j (by first | assumption | omega) (by first | assumption | omega)) yy_Line_find lk_Line_39 hA hK hN hS hPc hDc 0 2 rfl rfl rfl hl.1 rfl (Nat.le_of_ble_eq_true rfl) d_Line_readNamespace_53 ⟨by decide, by decide⟩ ⟨by decide, by decide⟩) hS (fun H locs hP hD hS => ?_)
            have hP : va_P D hq_cl ([hq_o2 h ta (nI len) ne1 pn1 lt1 sd1 fc1, hq_ai ta (G 2) 100 t, hq_o1 x xa xb xc (nI k1) (hq_z lab) lb im, hq_ai xa (G 0) 12 fh1, hq_ai xb (G 0) 12 fv1, hq_ai xc (G 2) 12 fl1] ++ Z) H := hP
            have hD : va_D A ([hq_o2 h ta (nI len) ne1 pn1 lt1 sd1 fc1, hq_ai ta (G 2) 100 t, hq_o1 x xa xb xc (nI k1) (hq_z lab) lb im, hq_ai xa (G 0) 12 fh1, hq_ai xb (G 0) 12 fv1, hq_ai xc (G 2) 12 fl1] ++ Z) := hD
            have hp2 := hq_fnd_le t 32 (j - a) a
            refine lv_istore (nL := 8) (lv' := [(7, .int (nI (hq_fnd t 32 a (j - a)))), (0, .ref h), (2, .int (nI j)), (3, .ref x), (5, .int (nI a)), (6, .int (nI n))]) hx hb d_Line_readNamespace_56 hl (by decide) rfl (fun ls hl => ?_)
            refine lv_aload_n hx hb d_Line_readNamespace_58 rfl (lv_at hl 1 rfl) ?_
            refine lv_iload hx hb d_Line_readNamespace_59 (lv_at hl 4 rfl) ?_
            refine lv_iload hx hb d_Line_readNamespace_61 (lv_at hl 0 rfl) ?_
            refine lv_aload_n hx hb d_Line_readNamespace_63 rfl (lv_at hl 3 rfl) ?_
            have hPc : va_P D hq_cl ([hq_o2 h ta (nI len) ne1 pn1 lt1 sd1 fc1, hq_ai ta (G 2) 100 t, hq_o1 x xa xb xc (nI k1) (hq_z lab) lb im, hq_ai xa (G 0) 12 fh1, hq_ai xb (G 0) 12 fv1, hq_ai xc (G 2) 12 fl1] ++ Z) H := hP
            have hDc : va_D A ([hq_o2 h ta (nI len) ne1 pn1 lt1 sd1 fc1, hq_ai ta (G 2) 100 t, hq_o1 x xa xb xc (nI k1) (hq_z lab) lb im, hq_ai xa (G 0) 12 fh1, hq_ai xb (G 0) 12 fv1, hq_ai xc (G 2) 12 fl1] ++ Z) := hD
            refine hq_iF (hq_rV (As := [.int (nI a), .int (nI (hq_fnd t 32 a (j - a))), .ref x]) (rest := []) hx hb hml hown hts (c_Line_readFeature l D G A Z h ta t len ne1 pn1 lt1 sd1 fc1 x xa xb xc fh1 fv1 fl1 k1 lab lb im a (hq_fnd t 32 a (j - a)) (by first | assumption | omega) (by first | assumption | omega) (by first | assumption | omega) (by first | assumption | omega) (by first | assumption | omega)) yy_Line_readFeature lk_Line_81 hA hK hN hS hPc hDc 0 2 rfl rfl rfl hl.1 rfl (Nat.le_of_ble_eq_true rfl) d_Line_readNamespace_64 ⟨by decide, by decide⟩ ⟨by decide, by decide⟩) hS (fun H locs hP hD hS => ?_)
            have hP : va_P D hq_cl ([hq_o2 h ta (nI len) (nI (hq_fnd t 58 a ((hq_fnd t 32 a (j - a)) - a))) (f_Line_readPart_o2 t a (hq_fnd t 32 a (j - a))) lt1 sd1 fc1, hq_ai ta (G 2) 100 t, hq_o1 x xa xb xc (nI (f_Line_readFeature_o3 t a (hq_fnd t 32 a (j - a)) lt1 sd1 fc1 fh1 fv1 fl1 k1)) (hq_z lab) lb im, hq_ai xa (G 0) 12 (f_Line_readFeature_o4 t a (hq_fnd t 32 a (j - a)) lt1 sd1 fc1 fh1 fv1 fl1 k1), hq_ai xb (G 0) 12 (f_Line_readFeature_o5 t a (hq_fnd t 32 a (j - a)) lt1 sd1 fc1 fh1 fv1 fl1 k1), hq_ai xc (G 2) 12 (f_Line_readFeature_o6 t a (hq_fnd t 32 a (j - a)) lt1 sd1 fc1 fh1 fv1 fl1 k1)] ++ Z) H := hP
            have hD : va_D A ([hq_o2 h ta (nI len) (nI (hq_fnd t 58 a ((hq_fnd t 32 a (j - a)) - a))) (f_Line_readPart_o2 t a (hq_fnd t 32 a (j - a))) lt1 sd1 fc1, hq_ai ta (G 2) 100 t, hq_o1 x xa xb xc (nI (f_Line_readFeature_o3 t a (hq_fnd t 32 a (j - a)) lt1 sd1 fc1 fh1 fv1 fl1 k1)) (hq_z lab) lb im, hq_ai xa (G 0) 12 (f_Line_readFeature_o4 t a (hq_fnd t 32 a (j - a)) lt1 sd1 fc1 fh1 fv1 fl1 k1), hq_ai xb (G 0) 12 (f_Line_readFeature_o5 t a (hq_fnd t 32 a (j - a)) lt1 sd1 fc1 fh1 fv1 fl1 k1), hq_ai xc (G 2) 12 (f_Line_readFeature_o6 t a (hq_fnd t 32 a (j - a)) lt1 sd1 fc1 fh1 fv1 fl1 k1)] ++ Z) := hD
            refine lv_if_ne (tgt := 72) hx hb d_Line_readNamespace_67 rfl (fun c67 => ?_) (fun c67 => ?_)
            · -- 67 taken
              have c67 : (f_Line_readFeature t a (hq_fnd t 32 a (j - a)) lt1 sd1 fc1 fh1 fv1 fl1 k1) = true := hq_zn.mp c67
              refine lv_aload_n hx hb d_Line_readNamespace_72 rfl (lv_at hl 1 rfl) ?_
              refine lv_iload hx hb d_Line_readNamespace_73 (lv_at hl 0 rfl) ?_
              refine lv_iload_n hx hb d_Line_readNamespace_75 rfl (lv_at hl 2 rfl) ?_
              have hPc : va_P D hq_cl ([hq_o2 h ta (nI len) (nI (hq_fnd t 58 a ((hq_fnd t 32 a (j - a)) - a))) (f_Line_readPart_o2 t a (hq_fnd t 32 a (j - a))) lt1 sd1 fc1, hq_ai ta (G 2) 100 t] ++ ([hq_o1 x xa xb xc (nI (f_Line_readFeature_o3 t a (hq_fnd t 32 a (j - a)) lt1 sd1 fc1 fh1 fv1 fl1 k1)) (hq_z lab) lb im, hq_ai xa (G 0) 12 (f_Line_readFeature_o4 t a (hq_fnd t 32 a (j - a)) lt1 sd1 fc1 fh1 fv1 fl1 k1), hq_ai xb (G 0) 12 (f_Line_readFeature_o5 t a (hq_fnd t 32 a (j - a)) lt1 sd1 fc1 fh1 fv1 fl1 k1), hq_ai xc (G 2) 12 (f_Line_readFeature_o6 t a (hq_fnd t 32 a (j - a)) lt1 sd1 fc1 fh1 fv1 fl1 k1)] ++ Z)) H := hP
              have hDc : va_D A ([hq_o2 h ta (nI len) (nI (hq_fnd t 58 a ((hq_fnd t 32 a (j - a)) - a))) (f_Line_readPart_o2 t a (hq_fnd t 32 a (j - a))) lt1 sd1 fc1, hq_ai ta (G 2) 100 t] ++ ([hq_o1 x xa xb xc (nI (f_Line_readFeature_o3 t a (hq_fnd t 32 a (j - a)) lt1 sd1 fc1 fh1 fv1 fl1 k1)) (hq_z lab) lb im, hq_ai xa (G 0) 12 (f_Line_readFeature_o4 t a (hq_fnd t 32 a (j - a)) lt1 sd1 fc1 fh1 fv1 fl1 k1), hq_ai xb (G 0) 12 (f_Line_readFeature_o5 t a (hq_fnd t 32 a (j - a)) lt1 sd1 fc1 fh1 fv1 fl1 k1), hq_ai xc (G 2) 12 (f_Line_readFeature_o6 t a (hq_fnd t 32 a (j - a)) lt1 sd1 fc1 fh1 fv1 fl1 k1)] ++ Z)) := hD
              refine hq_iF (hq_rV (As := [.int (nI (hq_fnd t 32 a (j - a))), .int (nI j)]) (rest := []) hx hb hml hown hts (c_Line_skipSpaces l D G A ([hq_o1 x xa xb xc (nI (f_Line_readFeature_o3 t a (hq_fnd t 32 a (j - a)) lt1 sd1 fc1 fh1 fv1 fl1 k1)) (hq_z lab) lb im, hq_ai xa (G 0) 12 (f_Line_readFeature_o4 t a (hq_fnd t 32 a (j - a)) lt1 sd1 fc1 fh1 fv1 fl1 k1), hq_ai xb (G 0) 12 (f_Line_readFeature_o5 t a (hq_fnd t 32 a (j - a)) lt1 sd1 fc1 fh1 fv1 fl1 k1), hq_ai xc (G 2) 12 (f_Line_readFeature_o6 t a (hq_fnd t 32 a (j - a)) lt1 sd1 fc1 fh1 fv1 fl1 k1)] ++ Z) h ta t len (nI (hq_fnd t 58 a ((hq_fnd t 32 a (j - a)) - a))) (f_Line_readPart_o2 t a (hq_fnd t 32 a (j - a))) lt1 sd1 fc1 (hq_fnd t 32 a (j - a)) j (by first | assumption | omega) (by first | assumption | omega)) yy_Line_skipSpaces lk_Line_56 hA hK hN hS hPc hDc 0 2 rfl rfl rfl hl.1 rfl (Nat.le_of_ble_eq_true rfl) d_Line_readNamespace_76 ⟨by decide, by decide⟩ ⟨by decide, by decide⟩) hS (fun H locs hP hD hS => ?_)
              have hP : va_P D hq_cl ([hq_o2 h ta (nI len) (nI (hq_fnd t 58 a ((hq_fnd t 32 a (j - a)) - a))) (f_Line_readPart_o2 t a (hq_fnd t 32 a (j - a))) lt1 sd1 fc1, hq_ai ta (G 2) 100 t, hq_o1 x xa xb xc (nI (f_Line_readFeature_o3 t a (hq_fnd t 32 a (j - a)) lt1 sd1 fc1 fh1 fv1 fl1 k1)) (hq_z lab) lb im, hq_ai xa (G 0) 12 (f_Line_readFeature_o4 t a (hq_fnd t 32 a (j - a)) lt1 sd1 fc1 fh1 fv1 fl1 k1), hq_ai xb (G 0) 12 (f_Line_readFeature_o5 t a (hq_fnd t 32 a (j - a)) lt1 sd1 fc1 fh1 fv1 fl1 k1), hq_ai xc (G 2) 12 (f_Line_readFeature_o6 t a (hq_fnd t 32 a (j - a)) lt1 sd1 fc1 fh1 fv1 fl1 k1)] ++ Z) H := hP
              have hD : va_D A ([hq_o2 h ta (nI len) (nI (hq_fnd t 58 a ((hq_fnd t 32 a (j - a)) - a))) (f_Line_readPart_o2 t a (hq_fnd t 32 a (j - a))) lt1 sd1 fc1, hq_ai ta (G 2) 100 t, hq_o1 x xa xb xc (nI (f_Line_readFeature_o3 t a (hq_fnd t 32 a (j - a)) lt1 sd1 fc1 fh1 fv1 fl1 k1)) (hq_z lab) lb im, hq_ai xa (G 0) 12 (f_Line_readFeature_o4 t a (hq_fnd t 32 a (j - a)) lt1 sd1 fc1 fh1 fv1 fl1 k1), hq_ai xb (G 0) 12 (f_Line_readFeature_o5 t a (hq_fnd t 32 a (j - a)) lt1 sd1 fc1 fh1 fv1 fl1 k1), hq_ai xc (G 2) 12 (f_Line_readFeature_o6 t a (hq_fnd t 32 a (j - a)) lt1 sd1 fc1 fh1 fv1 fl1 k1)] ++ Z) := hD
              have hp3 := hq_skp_le t 32 (j - (hq_fnd t 32 a (j - a))) (hq_fnd t 32 a (j - a))
              refine lv_istore (nL := 8) (lv' := [(5, .int (nI (hq_skp t 32 (hq_fnd t 32 a (j - a)) (j - (hq_fnd t 32 a (j - a)))))), (7, .int (nI (hq_fnd t 32 a (j - a)))), (0, .ref h), (2, .int (nI j)), (3, .ref x), (6, .int (nI n))]) hx hb d_Line_readNamespace_79 hl (by decide) rfl (fun ls hl => ?_)
              refine lv_iinc (nL := 8) (k := 5) (v := nI (n + 1)) (lv' := [(6, .int (nI (n + 1))), (5, .int (nI (hq_skp t 32 (hq_fnd t 32 a (j - a)) (j - (hq_fnd t 32 a (j - a)))))), (7, .int (nI (hq_fnd t 32 a (j - a)))), (0, .ref h), (2, .int (nI j)), (3, .ref x)]) hx hb d_Line_readNamespace_81 hl rfl (nI_add n 1) (by decide) rfl (fun ls hl => ?_)
              refine lv_goto (tgt := 34) hx hb d_Line_readNamespace_84 rfl ?_
              exact ih _ (by omega) (n + 1) (hq_skp t 32 (hq_fnd t 32 a (j - a)) (j - (hq_fnd t 32 a (j - a)))) (nI (hq_fnd t 58 a ((hq_fnd t 32 a (j - a)) - a))) (f_Line_readPart_o2 t a (hq_fnd t 32 a (j - a))) lt1 sd1 fc1 (f_Line_readFeature_o4 t a (hq_fnd t 32 a (j - a)) lt1 sd1 fc1 fh1 fv1 fl1 k1) (f_Line_readFeature_o5 t a (hq_fnd t 32 a (j - a)) lt1 sd1 fc1 fh1 fv1 fl1 k1) (f_Line_readFeature_o6 t a (hq_fnd t 32 a (j - a)) lt1 sd1 fc1 fh1 fv1 fl1 k1) (f_Line_readFeature_o3 t a (hq_fnd t 32 a (j - a)) lt1 sd1 fc1 fh1 fv1 fl1 k1) (L1 ++ [hq_fx t lt1 sd1 fc1 a (hq_fnd t 32 a (j - a))]) ls H locs rfl (by first | assumption | omega) (by first | assumption | omega) (hq_rf_le hk1) (by first | assumption | omega) (hq_rf_rep hr1 c67) (hF.trans (hq_fts_go c38 c44 hr1 c67)) (lv_sub hl [3, 4, 5, 1, 0] rfl) hP hD hS
            · -- 67 not taken
              have c67 : ¬ (f_Line_readFeature t a (hq_fnd t 32 a (j - a)) lt1 sd1 fc1 fh1 fv1 fl1 k1) = true := by rw [hq_z0.mp c67]; decide
              refine lv_iconst (v := 0) hx hb d_Line_readNamespace_70 (by decide) ?_
              exact hret 0 (f_Line_readFeature_o4 t a (hq_fnd t 32 a (j - a)) lt1 sd1 fc1 fh1 fv1 fl1 k1, f_Line_readFeature_o5 t a (hq_fnd t 32 a (j - a)) lt1 sd1 fc1 fh1 fv1 fl1 k1, f_Line_readFeature_o6 t a (hq_fnd t 32 a (j - a)) lt1 sd1 fc1 fh1 fv1 fl1 k1, f_Line_readFeature_o3 t a (hq_fnd t 32 a (j - a)) lt1 sd1 fc1 fh1 fv1 fl1 k1, nI (hq_fnd t 58 a ((hq_fnd t 32 a (j - a)) - a)), f_Line_readPart_o2 t a (hq_fnd t 32 a (j - a)), lt1, sd1, fc1) H locs 71 ls d_Line_readNamespace_71 (⟨by rw [hF, hq_fts_bad c38 c44 hr1 c67] <;> rfl, hq_rf_le hk1, fun L9 h9 => by rw [hF, hq_fts_bad c38 c44 hr1 c67] at h9; cases h9⟩) hP hD hS
    exact cut34 _ 0 (hq_skp t 32 (hq_fnd t 32 i (j - i)) (j - (hq_fnd t 32 i (j - i)))) (f_Line_readTitle_o1 t i (hq_fnd t 32 i (j - i)) ne pn) (f_Line_readTitle_o2 t i (hq_fnd t 32 i (j - i)) ne pn) (f_Line_readTitle_o3 t i (hq_fnd t 32 i (j - i)) ne pn) (f_Line_readTitle_o4 t i (hq_fnd t 32 i (j - i)) ne pn) (f_Line_readTitle_o5 t i (hq_fnd t 32 i (j - i)) ne pn) fh fv fl k Lf ls H locs rfl (by first | assumption | omega) (by first | assumption | omega) (by first | assumption | omega) (hq_ttl_ch ht (by omega) (by omega)) (hrep) (hq_nsp_go c17) (lv_sub hl [3, 5, 6, 1, 0] rfl) hP hD hS
  · -- 17 not taken
    have c17 : ¬ (f_Line_readTitle t i (hq_fnd t 32 i (j - i)) ne pn) = true := by rw [hq_z0.mp c17]; decide
    refine lv_iconst (v := 0) hx hb d_Line_readNamespace_20 (by decide) ?_
    exact hret 0 (fh, fv, fl, k, f_Line_readTitle_o1 t i (hq_fnd t 32 i (j - i)) ne pn, f_Line_readTitle_o2 t i (hq_fnd t 32 i (j - i)) ne pn, f_Line_readTitle_o3 t i (hq_fnd t 32 i (j - i)) ne pn, f_Line_readTitle_o4 t i (hq_fnd t 32 i (j - i)) ne pn, f_Line_readTitle_o5 t i (hq_fnd t 32 i (j - i)) ne pn) H locs 21 ls d_Line_readNamespace_21 (⟨by rw [hq_nsp_no c17] <;> rfl, hk, fun L9 h9 => by rw [hq_nsp_no c17] at h9; cases h9⟩) hP hD hS
theorem d_Line_readInto_0 : decode b_Line_readInto 0 = .ok (.aload_n 0, 1) := by decide +kernel
theorem d_Line_readInto_1 : decode b_Line_readInto 1 = .ok (.bipush (124), 2) := by decide +kernel
theorem d_Line_readInto_3 : decode b_Line_readInto 3 = .ok (.iconst 0, 1) := by decide +kernel
theorem d_Line_readInto_4 : decode b_Line_readInto 4 = .ok (.aload_n 0, 1) := by decide +kernel
theorem d_Line_readInto_5 : decode b_Line_readInto 5 = .ok (.getfield 15, 3) := by decide +kernel
theorem d_Line_readInto_8 : decode b_Line_readInto 8 = .ok (.invokevirtual 39, 3) := by decide +kernel
theorem d_Line_readInto_11 : decode b_Line_readInto 11 = .ok (.istore_n 2, 1) := by decide +kernel
theorem d_Line_readInto_12 : decode b_Line_readInto 12 = .ok (.aload_n 0, 1) := by decide +kernel
theorem d_Line_readInto_13 : decode b_Line_readInto 13 = .ok (.iload_n 2, 1) := by decide +kernel
theorem d_Line_readInto_14 : decode b_Line_readInto 14 = .ok (.aload_n 1, 1) := by decide +kernel
theorem d_Line_readInto_15 : decode b_Line_readInto 15 = .ok (.invokevirtual 43, 3) := by decide +kernel
theorem d_Line_readInto_18 : decode b_Line_readInto 18 = .ok (.ifCond .ne (5), 3) := by decide +kernel
theorem d_Line_readInto_21 : decode b_Line_readInto 21 = .ok (.iconst 0, 1) := by decide +kernel
theorem d_Line_readInto_22 : decode b_Line_readInto 22 = .ok (.ireturn, 1) := by decide +kernel
theorem d_Line_readInto_23 : decode b_Line_readInto 23 = .ok (.aload_n 1, 1) := by decide +kernel
theorem d_Line_readInto_24 : decode b_Line_readInto 24 = .ok (.iconst 0, 1) := by decide +kernel
theorem d_Line_readInto_25 : decode b_Line_readInto 25 = .ok (.putfield 47, 3) := by decide +kernel
theorem d_Line_readInto_28 : decode b_Line_readInto 28 = .ok (.iconst 0, 1) := by decide +kernel
theorem d_Line_readInto_29 : decode b_Line_readInto 29 = .ok (.istore_n 3, 1) := by decide +kernel
theorem d_Line_readInto_30 : decode b_Line_readInto 30 = .ok (.iload_n 2, 1) := by decide +kernel
theorem d_Line_readInto_31 : decode b_Line_readInto 31 = .ok (.aload_n 0, 1) := by decide +kernel
theorem d_Line_readInto_32 : decode b_Line_readInto 32 = .ok (.getfield 15, 3) := by decide +kernel
theorem d_Line_readInto_35 : decode b_Line_readInto 35 = .ok (.if_icmp .ge (47), 3) := by decide +kernel
theorem d_Line_readInto_38 : decode b_Line_readInto 38 = .ok (.iload_n 3, 1) := by decide +kernel
theorem d_Line_readInto_39 : decode b_Line_readInto 39 = .ok (.iconst 4, 1) := by decide +kernel
theorem d_Line_readInto_40 : decode b_Line_readInto 40 = .ok (.if_icmp .ge (42), 3) := by decide +kernel
theorem d_Line_readInto_43 : decode b_Line_readInto 43 = .ok (.aload_n 0, 1) := by decide +kernel
theorem d_Line_readInto_44 : decode b_Line_readInto 44 = .ok (.bipush (124), 2) := by decide +kernel
theorem d_Line_readInto_46 : decode b_Line_readInto 46 = .ok (.iload_n 2, 1) := by decide +kernel
theorem d_Line_readInto_47 : decode b_Line_readInto 47 = .ok (.iconst 1, 1) := by decide +kernel
theorem d_Line_readInto_48 : decode b_Line_readInto 48 = .ok (.iadd, 1) := by decide +kernel
theorem d_Line_readInto_49 : decode b_Line_readInto 49 = .ok (.aload_n 0, 1) := by decide +kernel
theorem d_Line_readInto_50 : decode b_Line_readInto 50 = .ok (.getfield 15, 3) := by decide +kernel
theorem d_Line_readInto_53 : decode b_Line_readInto 53 = .ok (.invokevirtual 39, 3) := by decide +kernel
theorem d_Line_readInto_56 : decode b_Line_readInto 56 = .ok (.istore 4, 2) := by decide +kernel
theorem d_Line_readInto_58 : decode b_Line_readInto 58 = .ok (.aload_n 0, 1) := by decide +kernel
theorem d_Line_readInto_59 : decode b_Line_readInto 59 = .ok (.iload_n 2, 1) := by decide +kernel
theorem d_Line_readInto_60 : decode b_Line_readInto 60 = .ok (.iconst 1, 1) := by decide +kernel
theorem d_Line_readInto_61 : decode b_Line_readInto 61 = .ok (.iadd, 1) := by decide +kernel
theorem d_Line_readInto_62 : decode b_Line_readInto 62 = .ok (.iload 4, 2) := by decide +kernel
theorem d_Line_readInto_64 : decode b_Line_readInto 64 = .ok (.aload_n 1, 1) := by decide +kernel
theorem d_Line_readInto_65 : decode b_Line_readInto 65 = .ok (.invokevirtual 52, 3) := by decide +kernel
theorem d_Line_readInto_68 : decode b_Line_readInto 68 = .ok (.ifCond .ne (5), 3) := by decide +kernel
theorem d_Line_readInto_71 : decode b_Line_readInto 71 = .ok (.iconst 0, 1) := by decide +kernel
theorem d_Line_readInto_72 : decode b_Line_readInto 72 = .ok (.ireturn, 1) := by decide +kernel
theorem d_Line_readInto_73 : decode b_Line_readInto 73 = .ok (.iinc 3 (1), 3) := by decide +kernel
theorem d_Line_readInto_76 : decode b_Line_readInto 76 = .ok (.iload 4, 2) := by decide +kernel
theorem d_Line_readInto_78 : decode b_Line_readInto 78 = .ok (.istore_n 2, 1) := by decide +kernel
theorem d_Line_readInto_79 : decode b_Line_readInto 79 = .ok (.goto (-49), 3) := by decide +kernel
theorem d_Line_readInto_82 : decode b_Line_readInto 82 = .ok (.iload_n 3, 1) := by decide +kernel
theorem d_Line_readInto_83 : decode b_Line_readInto 83 = .ok (.ifCond .le (15), 3) := by decide +kernel
theorem d_Line_readInto_86 : decode b_Line_readInto 86 = .ok (.iload_n 2, 1) := by decide +kernel
theorem d_Line_readInto_87 : decode b_Line_readInto 87 = .ok (.aload_n 0, 1) := by decide +kernel
theorem d_Line_readInto_88 : decode b_Line_readInto 88 = .ok (.getfield 15, 3) := by decide +kernel
theorem d_Line_readInto_91 : decode b_Line_readInto 91 = .ok (.if_icmp .ne (7), 3) := by decide +kernel
theorem d_Line_readInto_94 : decode b_Line_readInto 94 = .ok (.iconst 1, 1) := by decide +kernel
theorem d_Line_readInto_95 : decode b_Line_readInto 95 = .ok (.goto (4), 3) := by decide +kernel
theorem d_Line_readInto_98 : decode b_Line_readInto 98 = .ok (.iconst 0, 1) := by decide +kernel
theorem d_Line_readInto_99 : decode b_Line_readInto 99 = .ok (.ireturn, 1) := by decide +kernel
set_option maxHeartbeats 4000000 in
set_option maxRecDepth 100000 in
theorem c_Line_readInto (l : Launch) (D : va_G) (G : Nat → ClassId) (A : Nat → Prop) (Z : va_W) (h : Nat) (ta : Nat) (t : Nat → Int32) (len : Nat) (ne : Int32) (pn : Int32) (lt : Int32) (sd : Int32) (fc : Int32) (x : Nat) (xa : Nat) (xb : Nat) (xc : Nat) (fh : Nat → Int32) (fv : Nat → Int32) (fl : Nat → Int32) (k : Nat) (lab : Bool) (lb : Int32) (im : Int32) (hlen : len ≤ 100) (ht : ∀ q, q < len → hq_ch (t q)) (hk : k ≤ 12) : hq_MI l D G A y_Line_readInto b_Line_readInto 5 .boolean 5 0 0 [.ref h, .ref x] ([hq_o2 h ta (nI len) ne pn lt sd fc, hq_ai ta (G 2) 100 t, hq_o1 x xa xb xc (nI k) (hq_z lab) lb im, hq_ai xa (G 0) 12 fh, hq_ai xb (G 0) 12 fv, hq_ai xc (G 2) 12 fl] ++ Z) (fun r (u : (Bool × Int32 × Int32) × (Nat → Int32) × (Nat → Int32) × (Nat → Int32) × Nat × Int32 × Int32 × Int32 × Int32 × Int32) => r = hq_z (hq_par t len).isSome ∧ u.2.2.2.2.1 ≤ 12 ∧ ∀ R9, hq_par t len = some R9 → u.1.1 = R9.1 ∧ u.1.2.1 = R9.2.1 ∧ u.1.2.2 = R9.2.2.1 ∧ hq_rep R9.2.2.2 u.2.1 u.2.2.1 u.2.2.2.1 u.2.2.2.2.1) (fun (u : (Bool × Int32 × Int32) × (Nat → Int32) × (Nat → Int32) × (Nat → Int32) × Nat × Int32 × Int32 × Int32 × Int32 × Int32) => [hq_o2 h ta (nI len) u.2.2.2.2.2.1 u.2.2.2.2.2.2.1 u.2.2.2.2.2.2.2.1 u.2.2.2.2.2.2.2.2.1 u.2.2.2.2.2.2.2.2.2, hq_ai ta (G 2) 100 t, hq_o1 x xa xb xc (nI u.2.2.2.2.1) (hq_z u.1.1) u.1.2.1 u.1.2.2, hq_ai xa (G 0) 12 u.2.1, hq_ai xb (G 0) 12 u.2.2.1, hq_ai xc (G 2) 12 u.2.2.2.1] ++ Z) := by
  refine hq_bI (by decide) (Nat.le_of_ble_eq_true rfl) (fun r u h => by rw [h.1]; exact hq_znar _) ?_
  intro p e s m args below meth c Q hx hb hml hts hown hA hK hN hret ls H locs hl hP hD hS
  have hown : s.vm.findClass "HashedLearner$Line" = some m.cls := hown
  have hl : lv_has ls 5 [(0, .ref h), (1, .ref x)] := hl
  refine lv_aload_n hx hb d_Line_readInto_0 rfl (lv_at hl 0 rfl) ?_
  refine lv_bipush (v := 124) hx hb d_Line_readInto_1 (by decide) ?_
  refine lv_iconst (v := nI 0) hx hb d_Line_readInto_3 (by decide) ?_
  refine lv_aload_n hx hb d_Line_readInto_4 rfl (lv_at hl 0 rfl) ?_
  refine va_get (D := D) (ci := 2) (v := .int (nI len)) (C := R_Line) (T := F_Line) (N := 7) hx hb hts uw_Line hown hK hP 0 rfl rfl 1 (by decide) (hts _ fl_Line_15) (fun _ h9 => h9) rfl d_Line_readInto_5 ?_
  have hPc : va_P D hq_cl ([hq_o2 h ta (nI len) ne pn lt sd fc, hq_ai ta (G 2) 100 t] ++ ([hq_o1 x xa xb xc (nI k) (hq_z lab) lb im, hq_ai xa (G 0) 12 fh, hq_ai xb (G 0) 12 fv, hq_ai xc (G 2) 12 fl] ++ Z)) H := hP
  have hDc : va_D A ([hq_o2 h ta (nI len) ne pn lt sd fc, hq_ai ta (G 2) 100 t] ++ ([hq_o1 x xa xb xc (nI k) (hq_z lab) lb im, hq_ai xa (G 0) 12 fh, hq_ai xb (G 0) 12 fv, hq_ai xc (G 2) 12 fl] ++ Z)) := hD
  refine hq_iF (hq_rV (As := [.int 124, .int (nI 0), .int (nI len)]) (rest := []) hx hb hml hown hts (c_Line_find l D G A ([hq_o1 x xa xb xc (nI k) (hq_z lab) lb im, hq_ai xa (G 0) 12 fh, hq_ai xb (G 0) 12 fv, hq_ai xc (G 2) 12 fl] ++ Z) h ta t len ne pn lt sd fc 124 0 len (by first | assumption | omega) (by first | assumption | omega)) yy_Line_find lk_Line_39 hA hK hN hS hPc hDc 0 2 rfl rfl rfl hl.1 rfl (Nat.le_of_ble_eq_true rfl) d_Line_readInto_8 ⟨by decide, by decide⟩ ⟨by decide, by decide⟩) hS (fun H locs hP hD hS => ?_)
  have hP : va_P D hq_cl ([hq_o2 h ta (nI len) ne pn lt sd fc, hq_ai ta (G 2) 100 t, hq_o1 x xa xb xc (nI k) (hq_z lab) lb im, hq_ai xa (G 0) 12 fh, hq_ai xb (G 0) 12 fv, hq_ai xc (G 2) 12 fl] ++ Z) H := hP
  have hD : va_D A ([hq_o2 h ta (nI len) ne pn lt sd fc, hq_ai ta (G 2) 100 t, hq_o1 x xa xb xc (nI k) (hq_z lab) lb im, hq_ai xa (G 0) 12 fh, hq_ai xb (G 0) 12 fv, hq_ai xc (G 2) 12 fl] ++ Z) := hD
  have hp := hq_fnd_le t 124 (len - 0) 0
  refine lv_istore_n (nL := 5) (lv' := [(2, .int (nI (hq_fnd t 124 0 (len - 0)))), (0, .ref h), (1, .ref x)]) hx hb d_Line_readInto_11 rfl hl (by decide) rfl (fun ls hl => ?_)
  refine lv_aload_n hx hb d_Line_readInto_12 rfl (lv_at hl 1 rfl) ?_
  refine lv_iload_n hx hb d_Line_readInto_13 rfl (lv_at hl 0 rfl) ?_
  refine lv_aload_n hx hb d_Line_readInto_14 rfl (lv_at hl 2 rfl) ?_
  have hPc : va_P D hq_cl ([hq_o2 h ta (nI len) ne pn lt sd fc, hq_ai ta (G 2) 100 t, hq_o1 x xa xb xc (nI k) (hq_z lab) lb im, hq_ai xa (G 0) 12 fh, hq_ai xb (G 0) 12 fv, hq_ai xc (G 2) 12 fl] ++ Z) H := hP
  have hDc : va_D A ([hq_o2 h ta (nI len) ne pn lt sd fc, hq_ai ta (G 2) 100 t, hq_o1 x xa xb xc (nI k) (hq_z lab) lb im, hq_ai xa (G 0) 12 fh, hq_ai xb (G 0) 12 fv, hq_ai xc (G 2) 12 fl] ++ Z) := hD
  refine hq_iF (hq_rV (As := [.int (nI (hq_fnd t 124 0 (len - 0))), .ref x]) (rest := []) hx hb hml hown hts (c_Line_readHead l D G A Z h ta t len ne pn lt sd fc x xa xb xc fh fv fl k lab lb im (hq_fnd t 124 0 (len - 0)) (by first | assumption | omega) (by first | assumption | omega)) yy_Line_readHead lk_Line_43 hA hK hN hS hPc hDc 0 2 rfl rfl rfl hl.1 rfl (Nat.le_of_ble_eq_true rfl) d_Line_readInto_15 ⟨by decide, by decide⟩ ⟨by decide, by decide⟩) hS (fun H locs hP hD hS => ?_)
  have hP : va_P D hq_cl ([hq_o2 h ta (nI len) ne pn lt sd fc, hq_ai ta (G 2) 100 t, hq_o1 x xa xb xc (nI k) (hq_z (f_Line_readHead_o1 t (hq_fnd t 124 0 (len - 0)))) (f_Line_readHead_o2 t (hq_fnd t 124 0 (len - 0))) (f_Line_readHead_o3 t (hq_fnd t 124 0 (len - 0))), hq_ai xa (G 0) 12 fh, hq_ai xb (G 0) 12 fv, hq_ai xc (G 2) 12 fl] ++ Z) H := hP
  have hD : va_D A ([hq_o2 h ta (nI len) ne pn lt sd fc, hq_ai ta (G 2) 100 t, hq_o1 x xa xb xc (nI k) (hq_z (f_Line_readHead_o1 t (hq_fnd t 124 0 (len - 0)))) (f_Line_readHead_o2 t (hq_fnd t 124 0 (len - 0))) (f_Line_readHead_o3 t (hq_fnd t 124 0 (len - 0))), hq_ai xa (G 0) 12 fh, hq_ai xb (G 0) 12 fv, hq_ai xc (G 2) 12 fl] ++ Z) := hD
  refine lv_if_ne (tgt := 23) hx hb d_Line_readInto_18 rfl (fun c18 => ?_) (fun c18 => ?_)
  · -- 18 taken
    have c18 : (f_Line_readHead t (hq_fnd t 124 0 (len - 0))) = true := hq_zn.mp c18
    refine lv_aload_n hx hb d_Line_readInto_23 rfl (lv_at hl 2 rfl) ?_
    refine lv_iconst (v := nI 0) hx hb d_Line_readInto_24 (by decide) ?_
    refine va_put (D := D) (ci := 1) (v := .int (nI 0)) (ty := .int) (C := R_Example) (T := F_Example) (N := 7) hx hb hts uw_Example t_Example t_Example_ok n_Example hown hK hP hD hS 2 rfl rfl 3 (by decide) (hts _ fl_Line_47) (fun _ h9 => h9) rfl (by decide +kernel) (rfl) (rfl) (Nat.le_of_ble_eq_true rfl) d_Line_readInto_25 (fun H locs hP hD hS => ?_)
    have hP : va_P D hq_cl ([hq_o2 h ta (nI len) ne pn lt sd fc, hq_ai ta (G 2) 100 t, hq_o1 x xa xb xc (nI 0) (hq_z (f_Line_readHead_o1 t (hq_fnd t 124 0 (len - 0)))) (f_Line_readHead_o2 t (hq_fnd t 124 0 (len - 0))) (f_Line_readHead_o3 t (hq_fnd t 124 0 (len - 0))), hq_ai xa (G 0) 12 fh, hq_ai xb (G 0) 12 fv, hq_ai xc (G 2) 12 fl] ++ Z) H := hP
    have hD : va_D A ([hq_o2 h ta (nI len) ne pn lt sd fc, hq_ai ta (G 2) 100 t, hq_o1 x xa xb xc (nI 0) (hq_z (f_Line_readHead_o1 t (hq_fnd t 124 0 (len - 0)))) (f_Line_readHead_o2 t (hq_fnd t 124 0 (len - 0))) (f_Line_readHead_o3 t (hq_fnd t 124 0 (len - 0))), hq_ai xa (G 0) 12 fh, hq_ai xb (G 0) 12 fv, hq_ai xc (G 2) 12 fl] ++ Z) := hD
    refine lv_iconst (v := nI 0) hx hb d_Line_readInto_28 (by decide) ?_
    refine lv_istore_n (nL := 5) (lv' := [(3, .int (nI 0)), (2, .int (nI (hq_fnd t 124 0 (len - 0)))), (0, .ref h), (1, .ref x)]) hx hb d_Line_readInto_29 rfl hl (by decide) rfl (fun ls hl => ?_)
    have cut30 : ∀ (kz : Nat) (b : Nat) (n : Nat) (ne1 : Int32) (pn1 : Int32) (lt1 : Int32) (sd1 : Int32) (fc1 : Int32) (fh1 : Nat → Int32) (fv1 : Nat → Int32) (fl1 : Nat → Int32) (k1 : Nat) (L1 : List (Int32 × Int32 × Int32)) (ls : Array Slot) (H : Heap) (locs : List Loc), 4 - n = kz → (n ≤ 4) → (b ≤ len) → (k1 ≤ 12) → (hq_rep L1 fh1 fv1 fl1 k1) → (hq_par t len = if n = 0 ∧ len ≤ b then none else (hq_nss t len (4 - n) b L1).map (fun L => (f_Line_readHead_o1 t (hq_fnd t 124 0 (len - 0)), f_Line_readHead_o2 t (hq_fnd t 124 0 (len - 0)), f_Line_readHead_o3 t (hq_fnd t 124 0 (len - 0)), L))) → lv_has ls 5 [(0, .ref h), (1, .ref x), (2, .int (nI b)), (3, .int (nI n))] → va_P D hq_cl ([hq_o2 h ta (nI len) ne1 pn1 lt1 sd1 fc1, hq_ai ta (G 2) 100 t, hq_o1 x xa xb xc (nI k1) (hq_z (f_Line_readHead_o1 t (hq_fnd t 124 0 (len - 0)))) (f_Line_readHead_o2 t (hq_fnd t 124 0 (len - 0))) (f_Line_readHead_o3 t (hq_fnd t 124 0 (len - 0))), hq_ai xa (G 0) 12 fh1, hq_ai xb (G 0) 12 fv1, hq_ai xc (G 2) 12 fl1] ++ Z) H → va_D A ([hq_o2 h ta (nI len) ne1 pn1 lt1 sd1 fc1, hq_ai ta (G 2) 100 t, hq_o1 x xa xb xc (nI k1) (hq_z (f_Line_readHead_o1 t (hq_fnd t 124 0 (len - 0)))) (f_Line_readHead_o2 t (hq_fnd t 124 0 (len - 0))) (f_Line_readHead_o3 t (hq_fnd t 124 0 (len - 0))), hq_ai xa (G 0) 12 fh1, hq_ai xb (G 0) 12 fv1, hq_ai xc (G 2) 12 fl1] ++ Z) → va_S A s.heap H locs → W p l e (hq_rm 5 0 0) s m args below meth c H locs 0 0 Q (F0 m 30 ls []) := by
      intro kz
      induction kz using Nat.strongRecOn with
      | ind kz ih =>
        intro b n ne1 pn1 lt1 sd1 fc1 fh1 fv1 fl1 k1 L1 ls H locs hkz hn4 hbl hk1 hr1 hF hl hP hD hS
        subst hkz
        refine lv_iload_n hx hb d_Line_readInto_30 rfl (lv_at hl 2 rfl) ?_
        refine lv_aload_n hx hb d_Line_readInto_31 rfl (lv_at hl 0 rfl) ?_
        refine va_get (D := D) (ci := 2) (v := .int (nI len)) (C := R_Line) (T := F_Line) (N := 7) hx hb hts uw_Line hown hK hP 0 rfl rfl 1 (by decide) (hts _ fl_Line_15) (fun _ h9 => h9) rfl d_Line_readInto_32 ?_
        refine lv_icmp_ge (tgt := 82) hx hb d_Line_readInto_35 rfl (fun c35 => ?_) (fun c35 => ?_)
        · -- 35 taken
          have c35 : len ≤ b := (nI_leI (a := len) (b := b) (by omega) (by omega)).mp c35
          refine lv_iload_n hx hb d_Line_readInto_82 rfl (lv_at hl 3 rfl) ?_
          refine lv_if_le (tgt := 98) hx hb d_Line_readInto_83 rfl (fun c83 => ?_) (fun c83 => ?_)
          · -- 83 taken
            have c83 : n ≤ 0 := (nI_leI (a := n) (b := 0) (by omega) (by omega)).mp c83
            refine lv_iconst (v := 0) hx hb d_Line_readInto_98 (by decide) ?_
            exact hret 0 ((f_Line_readHead_o1 t (hq_fnd t 124 0 (len - 0)), f_Line_readHead_o2 t (hq_fnd t 124 0 (len - 0)), f_Line_readHead_o3 t (hq_fnd t 124 0 (len - 0))), fh1, fv1, fl1, k1, ne1, pn1, lt1, sd1, fc1) H locs 99 ls d_Line_readInto_99 (⟨by rw [hF]; first | (rw [hq_par_end0 (len := len) (b := b) c83 (by omega)] <;> rfl) | (rw [hq_par_end (len := len) (b := b) c83 (by omega), NOIF] <;> rfl), hk1, fun R9 h9 => by rw [hF] at h9; first | (rw [hq_par_end0 (len := len) (b := b) c83 (by omega)] at h9; cases h9) | (rw [hq_par_end (len := len) (b := b) c83 (by omega), NOIF] at h9; cases h9 <;> exact ⟨rfl, rfl, rfl, hr1⟩)⟩) hP hD hS
          · -- 83 not taken
            have c83 : ¬ n ≤ 0 := fun h => c83 ((nI_leI (a := n) (b := 0) (by omega) (by omega)).mpr h)
            refine lv_iload_n hx hb d_Line_readInto_86 rfl (lv_at hl 2 rfl) ?_
            refine lv_aload_n hx hb d_Line_readInto_87 rfl (lv_at hl 0 rfl) ?_
            refine va_get (D := D) (ci := 2) (v := .int (nI len)) (C := R_Line) (T := F_Line) (N := 7) hx hb hts uw_Line hown hK hP 0 rfl rfl 1 (by decide) (hts _ fl_Line_15) (fun _ h9 => h9) rfl d_Line_readInto_88 ?_
            refine lv_icmp_ne (tgt := 98) hx hb d_Line_readInto_91 rfl (fun c91 => ?_) (fun c91 => ?_)
            · -- 91 taken
              have c91 : ¬ b = len := fun h => c91 ((nI_eq (a := b) (b := len) (by omega) (by omega)).mpr h)
              refine lv_iconst (v := 0) hx hb d_Line_readInto_98 (by decide) ?_
              exact hret 0 ((f_Line_readHead_o1 t (hq_fnd t 124 0 (len - 0)), f_Line_readHead_o2 t (hq_fnd t 124 0 (len - 0)), f_Line_readHead_o3 t (hq_fnd t 124 0 (len - 0))), fh1, fv1, fl1, k1, ne1, pn1, lt1, sd1, fc1) H locs 99 ls d_Line_readInto_99 (⟨by rw [hF]; first | (rw [hq_par_end0 (len := len) (b := b) c83 (by omega)] <;> rfl) | (rw [hq_par_end (len := len) (b := b) c83 (by omega), if_neg c91] <;> rfl), hk1, fun R9 h9 => by rw [hF] at h9; first | (rw [hq_par_end0 (len := len) (b := b) c83 (by omega)] at h9; cases h9) | (rw [hq_par_end (len := len) (b := b) c83 (by omega), if_neg c91] at h9; cases h9 <;> exact ⟨rfl, rfl, rfl, hr1⟩)⟩) hP hD hS
            · -- 91 not taken
              have c91 : b = len := (nI_eq (a := b) (b := len) (by omega) (by omega)).mp c91
              refine lv_iconst (v := 1) hx hb d_Line_readInto_94 (by decide) ?_
              refine lv_goto (tgt := 99) hx hb d_Line_readInto_95 rfl ?_
              exact hret 1 ((f_Line_readHead_o1 t (hq_fnd t 124 0 (len - 0)), f_Line_readHead_o2 t (hq_fnd t 124 0 (len - 0)), f_Line_readHead_o3 t (hq_fnd t 124 0 (len - 0))), fh1, fv1, fl1, k1, ne1, pn1, lt1, sd1, fc1) H locs 99 ls d_Line_readInto_99 (⟨by rw [hF]; first | (rw [hq_par_end0 (len := len) (b := b) c83 (by omega)] <;> rfl) | (rw [hq_par_end (len := len) (b := b) c83 (by omega), if_pos c91] <;> rfl), hk1, fun R9 h9 => by rw [hF] at h9; first | (rw [hq_par_end0 (len := len) (b := b) c83 (by omega)] at h9; cases h9) | (rw [hq_par_end (len := len) (b := b) c83 (by omega), if_pos c91] at h9; cases h9 <;> exact ⟨rfl, rfl, rfl, hr1⟩)⟩) hP hD hS
        · -- 35 not taken
          have c35 : ¬ len ≤ b := fun h => c35 ((nI_leI (a := len) (b := b) (by omega) (by omega)).mpr h)
          refine lv_iload_n hx hb d_Line_readInto_38 rfl (lv_at hl 3 rfl) ?_
          refine lv_iconst (v := 4) hx hb d_Line_readInto_39 (by decide) ?_
          refine lv_icmp_ge (tgt := 82) hx hb d_Line_readInto_40 rfl (fun c40 => ?_) (fun c40 => ?_)
          · -- 40 taken
            have c40 : 4 ≤ n := (nI_leI (a := 4) (b := n) (by omega) (by omega)).mp c40
            refine lv_iload_n hx hb d_Line_readInto_82 rfl (lv_at hl 3 rfl) ?_
            refine lv_if_le (tgt := 98) hx hb d_Line_readInto_83 rfl (fun c83 => ?_) (fun c83 => ?_)
            · -- 83 taken
              have c83 : n ≤ 0 := (nI_leI (a := n) (b := 0) (by omega) (by omega)).mp c83
              refine lv_iconst (v := 0) hx hb d_Line_readInto_98 (by decide) ?_
              exact hret 0 ((f_Line_readHead_o1 t (hq_fnd t 124 0 (len - 0)), f_Line_readHead_o2 t (hq_fnd t 124 0 (len - 0)), f_Line_readHead_o3 t (hq_fnd t 124 0 (len - 0))), fh1, fv1, fl1, k1, ne1, pn1, lt1, sd1, fc1) H locs 99 ls d_Line_readInto_99 (⟨by rw [hF]; first | (rw [hq_par_end0 (len := len) (b := b) c83 (by omega)] <;> rfl) | (rw [hq_par_end (len := len) (b := b) c83 (by omega), NOIF] <;> rfl), hk1, fun R9 h9 => by rw [hF] at h9; first | (rw [hq_par_end0 (len := len) (b := b) c83 (by omega)] at h9; cases h9) | (rw [hq_par_end (len := len) (b := b) c83 (by omega), NOIF] at h9; cases h9 <;> exact ⟨rfl, rfl, rfl, hr1⟩)⟩) hP hD hS
            · -- 83 not taken
              have c83 : ¬ n ≤ 0 := fun h => c83 ((nI_leI (a := n) (b := 0) (by omega) (by omega)).mpr h)
              refine lv_iload_n hx hb d_Line_readInto_86 rfl (lv_at hl 2 rfl) ?_
              refine lv_aload_n hx hb d_Line_readInto_87 rfl (lv_at hl 0 rfl) ?_
              refine va_get (D := D) (ci := 2) (v := .int (nI len)) (C := R_Line) (T := F_Line) (N := 7) hx hb hts uw_Line hown hK hP 0 rfl rfl 1 (by decide) (hts _ fl_Line_15) (fun _ h9 => h9) rfl d_Line_readInto_88 ?_
              refine lv_icmp_ne (tgt := 98) hx hb d_Line_readInto_91 rfl (fun c91 => ?_) (fun c91 => ?_)
              · -- 91 taken
                have c91 : ¬ b = len := fun h => c91 ((nI_eq (a := b) (b := len) (by omega) (by omega)).mpr h)
                refine lv_iconst (v := 0) hx hb d_Line_readInto_98 (by decide) ?_
                exact hret 0 ((f_Line_readHead_o1 t (hq_fnd t 124 0 (len - 0)), f_Line_readHead_o2 t (hq_fnd t 124 0 (len - 0)), f_Line_readHead_o3 t (hq_fnd t 124 0 (len - 0))), fh1, fv1, fl1, k1, ne1, pn1, lt1, sd1, fc1) H locs 99 ls d_Line_readInto_99 (⟨by rw [hF]; first | (rw [hq_par_end0 (len := len) (b := b) c83 (by omega)] <;> rfl) | (rw [hq_par_end (len := len) (b := b) c83 (by omega), if_neg c91] <;> rfl), hk1, fun R9 h9 => by rw [hF] at h9; first | (rw [hq_par_end0 (len := len) (b := b) c83 (by omega)] at h9; cases h9) | (rw [hq_par_end (len := len) (b := b) c83 (by omega), if_neg c91] at h9; cases h9 <;> exact ⟨rfl, rfl, rfl, hr1⟩)⟩) hP hD hS
              · -- 91 not taken
                have c91 : b = len := (nI_eq (a := b) (b := len) (by omega) (by omega)).mp c91
                refine lv_iconst (v := 1) hx hb d_Line_readInto_94 (by decide) ?_
                refine lv_goto (tgt := 99) hx hb d_Line_readInto_95 rfl ?_
                exact hret 1 ((f_Line_readHead_o1 t (hq_fnd t 124 0 (len - 0)), f_Line_readHead_o2 t (hq_fnd t 124 0 (len - 0)), f_Line_readHead_o3 t (hq_fnd t 124 0 (len - 0))), fh1, fv1, fl1, k1, ne1, pn1, lt1, sd1, fc1) H locs 99 ls d_Line_readInto_99 (⟨by rw [hF]; first | (rw [hq_par_end0 (len := len) (b := b) c83 (by omega)] <;> rfl) | (rw [hq_par_end (len := len) (b := b) c83 (by omega), if_pos c91] <;> rfl), hk1, fun R9 h9 => by rw [hF] at h9; first | (rw [hq_par_end0 (len := len) (b := b) c83 (by omega)] at h9; cases h9) | (rw [hq_par_end (len := len) (b := b) c83 (by omega), if_pos c91] at h9; cases h9 <;> exact ⟨rfl, rfl, rfl, hr1⟩)⟩) hP hD hS
          · -- 40 not taken
            have c40 : ¬ 4 ≤ n := fun h => c40 ((nI_leI (a := 4) (b := n) (by omega) (by omega)).mpr h)
            refine lv_aload_n hx hb d_Line_readInto_43 rfl (lv_at hl 0 rfl) ?_
            refine lv_bipush (v := 124) hx hb d_Line_readInto_44 (by decide) ?_
            refine lv_iload_n hx hb d_Line_readInto_46 rfl (lv_at hl 2 rfl) ?_
            refine lv_iconst (v := 1) hx hb d_Line_readInto_47 (by decide) ?_
            refine lv_iadd hx hb d_Line_readInto_48 ?_
            refine hq_topi (x' := nI (b + 1)) (nI_add b 1) ?_
            refine lv_aload_n hx hb d_Line_readInto_49 rfl (lv_at hl 0 rfl) ?_
            refine va_get (D := D) (ci := 2) (v := .int (nI len)) (C := R_Line) (T := F_Line) (N := 7) hx hb hts uw_Line hown hK hP 0 rfl rfl 1 (by decide) (hts _ fl_Line_15) (fun _ h9 => h9) rfl d_Line_readInto_50 ?_
            have hPc : va_P D hq_cl ([hq_o2 h ta (nI len) ne1 pn1 lt1 sd1 fc1, hq_ai ta (G 2) 100 t] ++ ([hq_o1 x xa xb xc (nI k1) (hq_z (f_Line_readHead_o1 t (hq_fnd t 124 0 (len - 0)))) (f_Line_readHead_o2 t (hq_fnd t 124 0 (len - 0))) (f_Line_readHead_o3 t (hq_fnd t 124 0 (len - 0))), hq_ai xa (G 0) 12 fh1, hq_ai xb (G 0) 12 fv1, hq_ai xc (G 2) 12 fl1] ++ Z)) H := hP
            have hDc : va_D A ([hq_o2 h ta (nI len) ne1 pn1 lt1 sd1 fc1, hq_ai ta (G 2) 100 t] ++ ([hq_o1 x xa xb xc (nI k1) (hq_z (f_Line_readHead_o1 t (hq_fnd t 124 0 (len - 0)))) (f_Line_readHead_o2 t (hq_fnd t 124 0 (len - 0))) (f_Line_readHead_o3 t (hq_fnd t 124 0 (len - 0))), hq_ai xa (G 0) 12 fh1, hq_ai xb (G 0) 12 fv1, hq_ai xc (G 2) 12 fl1] ++ Z)) := hD
            refine hq_iF (hq_rV (As := [.int 124, .int (nI (b + 1)), .int (nI len)]) (rest := []) hx hb hml hown hts (c_Line_find l D G A ([hq_o1 x xa xb xc (nI k1) (hq_z (f_Line_readHead_o1 t (hq_fnd t 124 0 (len - 0)))) (f_Line_readHead_o2 t (hq_fnd t 124 0 (len - 0))) (f_Line_readHead_o3 t (hq_fnd t 124 0 (len - 0))), hq_ai xa (G 0) 12 fh1, hq_ai xb (G 0) 12 fv1, hq_ai xc (G 2) 12 fl1] ++ Z) h ta t len ne1 pn1 lt1 sd1 fc1 124 (b + 1) len (by first | assumption | omega) (by first | assumption | omega)) yy_Line_find lk_Line_39 hA hK hN hS hPc hDc 0 2 rfl rfl rfl hl.1 rfl (Nat.le_of_ble_eq_true rfl) d_Line_readInto_53 ⟨by decide, by decide⟩ ⟨by decide, by decide⟩) hS (fun H locs hP hD hS => ?_)
            have hP : va_P D hq_cl ([hq_o2 h ta (nI len) ne1 pn1 lt1 sd1 fc1, hq_ai ta (G 2) 100 t, hq_o1 x xa xb xc (nI k1) (hq_z (f_Line_readHead_o1 t (hq_fnd t 124 0 (len - 0)))) (f_Line_readHead_o2 t (hq_fnd t 124 0 (len - 0))) (f_Line_readHead_o3 t (hq_fnd t 124 0 (len - 0))), hq_ai xa (G 0) 12 fh1, hq_ai xb (G 0) 12 fv1, hq_ai xc (G 2) 12 fl1] ++ Z) H := hP
            have hD : va_D A ([hq_o2 h ta (nI len) ne1 pn1 lt1 sd1 fc1, hq_ai ta (G 2) 100 t, hq_o1 x xa xb xc (nI k1) (hq_z (f_Line_readHead_o1 t (hq_fnd t 124 0 (len - 0)))) (f_Line_readHead_o2 t (hq_fnd t 124 0 (len - 0))) (f_Line_readHead_o3 t (hq_fnd t 124 0 (len - 0))), hq_ai xa (G 0) 12 fh1, hq_ai xb (G 0) 12 fv1, hq_ai xc (G 2) 12 fl1] ++ Z) := hD
            have hp2 := hq_fnd_le t 124 (len - (b + 1)) (b + 1)
            refine lv_istore (nL := 5) (lv' := [(4, .int (nI (hq_fnd t 124 (b + 1) (len - (b + 1))))), (0, .ref h), (1, .ref x), (2, .int (nI b)), (3, .int (nI n))]) hx hb d_Line_readInto_56 hl (by decide) rfl (fun ls hl => ?_)
            refine lv_aload_n hx hb d_Line_readInto_58 rfl (lv_at hl 1 rfl) ?_
            refine lv_iload_n hx hb d_Line_readInto_59 rfl (lv_at hl 3 rfl) ?_
            refine lv_iconst (v := 1) hx hb d_Line_readInto_60 (by decide) ?_
            refine lv_iadd hx hb d_Line_readInto_61 ?_
            refine hq_topi (x' := nI (b + 1)) (nI_add b 1) ?_
            refine lv_iload hx hb d_Line_readInto_62 (lv_at hl 0 rfl) ?_
            refine lv_aload_n hx hb d_Line_readInto_64 rfl (lv_at hl 2 rfl) ?_
            have hPc : va_P D hq_cl ([hq_o2 h ta (nI len) ne1 pn1 lt1 sd1 fc1, hq_ai ta (G 2) 100 t, hq_o1 x xa xb xc (nI k1) (hq_z (f_Line_readHead_o1 t (hq_fnd t 124 0 (len - 0)))) (f_Line_readHead_o2 t (hq_fnd t 124 0 (len - 0))) (f_Line_readHead_o3 t (hq_fnd t 124 0 (len - 0))), hq_ai xa (G 0) 12 fh1, hq_ai xb (G 0) 12 fv1, hq_ai xc (G 2) 12 fl1] ++ Z) H := hP
            have hDc : va_D A ([hq_o2 h ta (nI len) ne1 pn1 lt1 sd1 fc1, hq_ai ta (G 2) 100 t, hq_o1 x xa xb xc (nI k1) (hq_z (f_Line_readHead_o1 t (hq_fnd t 124 0 (len - 0)))) (f_Line_readHead_o2 t (hq_fnd t 124 0 (len - 0))) (f_Line_readHead_o3 t (hq_fnd t 124 0 (len - 0))), hq_ai xa (G 0) 12 fh1, hq_ai xb (G 0) 12 fv1, hq_ai xc (G 2) 12 fl1] ++ Z) := hD
            refine hq_i (hq_rV (As := [.int (nI (b + 1)), .int (nI (hq_fnd t 124 (b + 1) (len - (b + 1)))), .ref x]) (rest := []) hx hb hml hown hts (c_Line_readNamespace l D G A Z h ta t len ne1 pn1 lt1 sd1 fc1 x xa xb xc fh1 fv1 fl1 k1 (f_Line_readHead_o1 t (hq_fnd t 124 0 (len - 0))) (f_Line_readHead_o2 t (hq_fnd t 124 0 (len - 0))) (f_Line_readHead_o3 t (hq_fnd t 124 0 (len - 0))) (b + 1) (hq_fnd t 124 (b + 1) (len - (b + 1))) L1 (by first | assumption | omega) (by first | assumption | omega) (by first | assumption | omega) (by first | assumption | omega) (by first | assumption | omega) (by first | assumption | omega)) yy_Line_readNamespace lk_Line_52 hA hK hN hS hPc hDc 0 2 rfl rfl rfl hl.1 rfl (Nat.le_of_ble_eq_true rfl) d_Line_readInto_65 ⟨by decide, by decide⟩ ⟨by decide, by decide⟩) hS (fun r65 u65 H locs w65 hP hD hS => ?_)
            have hP : va_P D hq_cl ([hq_o2 h ta (nI len) u65.2.2.2.2.1 u65.2.2.2.2.2.1 u65.2.2.2.2.2.2.1 u65.2.2.2.2.2.2.2.1 u65.2.2.2.2.2.2.2.2, hq_ai ta (G 2) 100 t, hq_o1 x xa xb xc (nI u65.2.2.2.1) (hq_z (f_Line_readHead_o1 t (hq_fnd t 124 0 (len - 0)))) (f_Line_readHead_o2 t (hq_fnd t 124 0 (len - 0))) (f_Line_readHead_o3 t (hq_fnd t 124 0 (len - 0))), hq_ai xa (G 0) 12 u65.1, hq_ai xb (G 0) 12 u65.2.1, hq_ai xc (G 2) 12 u65.2.2.1] ++ Z) H := hP
            have hD : va_D A ([hq_o2 h ta (nI len) u65.2.2.2.2.1 u65.2.2.2.2.2.1 u65.2.2.2.2.2.2.1 u65.2.2.2.2.2.2.2.1 u65.2.2.2.2.2.2.2.2, hq_ai ta (G 2) 100 t, hq_o1 x xa xb xc (nI u65.2.2.2.1) (hq_z (f_Line_readHead_o1 t (hq_fnd t 124 0 (len - 0)))) (f_Line_readHead_o2 t (hq_fnd t 124 0 (len - 0))) (f_Line_readHead_o3 t (hq_fnd t 124 0 (len - 0))), hq_ai xa (G 0) 12 u65.1, hq_ai xb (G 0) 12 u65.2.1, hq_ai xc (G 2) 12 u65.2.2.1] ++ Z) := hD
            obtain ⟨fh2, fv2, fl2, k2, ne2, pn2, lt2, sd2, fc2⟩ := u65
            obtain ⟨w65, hk2, hr2⟩ := w65
            subst w65
            have hP : va_P D hq_cl ([hq_o2 h ta (nI len) ne2 pn2 lt2 sd2 fc2, hq_ai ta (G 2) 100 t, hq_o1 x xa xb xc (nI k2) (hq_z (f_Line_readHead_o1 t (hq_fnd t 124 0 (len - 0)))) (f_Line_readHead_o2 t (hq_fnd t 124 0 (len - 0))) (f_Line_readHead_o3 t (hq_fnd t 124 0 (len - 0))), hq_ai xa (G 0) 12 fh2, hq_ai xb (G 0) 12 fv2, hq_ai xc (G 2) 12 fl2] ++ Z) H := hP
            have hD : va_D A ([hq_o2 h ta (nI len) ne2 pn2 lt2 sd2 fc2, hq_ai ta (G 2) 100 t, hq_o1 x xa xb xc (nI k2) (hq_z (f_Line_readHead_o1 t (hq_fnd t 124 0 (len - 0)))) (f_Line_readHead_o2 t (hq_fnd t 124 0 (len - 0))) (f_Line_readHead_o3 t (hq_fnd t 124 0 (len - 0))), hq_ai xa (G 0) 12 fh2, hq_ai xb (G 0) 12 fv2, hq_ai xc (G 2) 12 fl2] ++ Z) := hD
            refine lv_if_ne (tgt := 73) hx hb d_Line_readInto_68 rfl (fun c68 => ?_) (fun c68 => ?_)
            · -- 68 taken
              have c68 : ((hq_nsp t (b + 1) (hq_fnd t 124 (b + 1) (len - (b + 1))) L1).isSome) = true := hq_zn.mp c68
              obtain ⟨L2, hL2⟩ := Option.isSome_iff_exists.mp c68
              refine lv_iinc (nL := 5) (k := 4) (v := nI (n + 1)) (lv' := [(3, .int (nI (n + 1))), (4, .int (nI (hq_fnd t 124 (b + 1) (len - (b + 1))))), (0, .ref h), (1, .ref x), (2, .int (nI b))]) hx hb d_Line_readInto_73 hl rfl (nI_add n 1) (by decide) rfl (fun ls hl => ?_)
              refine lv_iload hx hb d_Line_readInto_76 (lv_at hl 1 rfl) ?_
              refine lv_istore_n (nL := 5) (lv' := [(2, .int (nI (hq_fnd t 124 (b + 1) (len - (b + 1))))), (3, .int (nI (n + 1))), (4, .int (nI (hq_fnd t 124 (b + 1) (len - (b + 1))))), (0, .ref h), (1, .ref x)]) hx hb d_Line_readInto_78 rfl hl (by decide) rfl (fun ls hl => ?_)
              refine lv_goto (tgt := 30) hx hb d_Line_readInto_79 rfl ?_
              exact ih _ (by omega) (hq_fnd t 124 (b + 1) (len - (b + 1))) (n + 1) ne2 pn2 lt2 sd2 fc2 fh2 fv2 fl2 k2 L2 ls H locs rfl (by first | assumption | omega) (by first | assumption | omega) (by first | assumption | omega) (hr2 L2 hL2) (hF.trans (hq_par_next c40 c35 hL2)) (lv_sub hl [3, 4, 0, 1] rfl) hP hD hS
            · -- 68 not taken
              have c68 : ¬ ((hq_nsp t (b + 1) (hq_fnd t 124 (b + 1) (len - (b + 1))) L1).isSome) = true := by rw [hq_z0.mp c68]; decide
              refine lv_iconst (v := 0) hx hb d_Line_readInto_71 (by decide) ?_
              exact hret 0 ((f_Line_readHead_o1 t (hq_fnd t 124 0 (len - 0)), f_Line_readHead_o2 t (hq_fnd t 124 0 (len - 0)), f_Line_readHead_o3 t (hq_fnd t 124 0 (len - 0))), fh2, fv2, fl2, k2, ne2, pn2, lt2, sd2, fc2) H locs 72 ls d_Line_readInto_72 (⟨by rw [hF, hq_par_bad c40 c35 c68] <;> rfl, hk2, fun R9 h9 => by rw [hF, hq_par_bad c40 c35 c68] at h9; cases h9⟩) hP hD hS
    exact cut30 _ (hq_fnd t 124 0 (len - 0)) 0 ne pn lt sd fc fh fv fl 0 ([] : List (Int32 × Int32 × Int32)) ls H locs rfl (by first | assumption | omega) (by first | assumption | omega) (by first | assumption | omega) (hq_rep_0 _ _ _) (hq_par_go c18) (lv_sub hl [2, 3, 1, 0] rfl) hP hD hS
  · -- 18 not taken
    have c18 : ¬ (f_Line_readHead t (hq_fnd t 124 0 (len - 0))) = true := by rw [hq_z0.mp c18]; decide
    refine lv_iconst (v := 0) hx hb d_Line_readInto_21 (by decide) ?_
    exact hret 0 ((f_Line_readHead_o1 t (hq_fnd t 124 0 (len - 0)), f_Line_readHead_o2 t (hq_fnd t 124 0 (len - 0)), f_Line_readHead_o3 t (hq_fnd t 124 0 (len - 0))), fh, fv, fl, k, ne, pn, lt, sd, fc) H locs 22 ls d_Line_readInto_22 (⟨by rw [hq_par, if_neg c18] <;> rfl, hk, fun R9 h9 => by rw [hq_par, if_neg c18] at h9; cases h9⟩) hP hD hS
