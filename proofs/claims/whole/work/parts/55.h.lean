set_option maxHeartbeats 4000000 in
set_option maxRecDepth 100000 in
theorem c_H_save_do (l : Launch) (D : va_G) (G : Nat → ClassId) (A : Nat → Prop) (Z : va_W) (h : Nat) (lna : Nat) (y : Nat) (rra : Nat) (od : Nat) (hd : Nat) (rsa : Nat) (so : Nat) (z : Nat) (o : Nat) (tl : Nat) (b : Nat) (mma : Nat) (vva : Nat) (wc : Int32) (mm : Nat → Option Nat) (sv : Nat → Int32) (j : Nat) (wa : Nat) (sa : Nat) (ca : Nat) (n : Nat) (wt : Nat → Int32) (su : Nat → Int64) (sc : Nat → Int64) (ru : Int32) (b2 : Nat) (wa2 : Nat) (sa2 : Nat) (ca2 : Nat) (wt2 : Nat → Int32) (su2 : Nat → Int64) (sc2 : Nat → Int64) (ru2 : Int32) (hj : j < 2) (hmm : mm j = some b2) (hn : hq_pow n) : hq_FI l D G A y_H_save b_H_save 2 .boolean 2 [.ref h, .int (nI j)] ([hq_o7 h lna y rra (nI od) (nI hd) rsa (nI so) z o tl b mma vva wc, hq_aq mma (G 5) 2 mm, hq_ai vva (G 3) 2 sv, hq_o4 b wa sa ca ru, hq_ai wa (G 0) n wt, hq_al sa (G 1) n su, hq_al ca (G 1) n sc, hq_o4 b2 wa2 sa2 ca2 ru2, hq_ai wa2 (G 0) n wt2, hq_al sa2 (G 1) n su2, hq_al ca2 (G 1) n sc2] ++ Z) (hq_z true) ([hq_o7 h lna y rra (nI od) (nI hd) rsa (nI so) z o tl b mma vva wc, hq_aq mma (G 5) 2 mm, hq_ai vva (G 3) 2 (upd sv j 1), hq_o4 b wa sa ca ru, hq_ai wa (G 0) n wt, hq_al sa (G 1) n su, hq_al ca (G 1) n sc, hq_o4 b2 wa2 sa2 ca2 ru2, hq_ai wa2 (G 0) n (va_cpy wt wt2 0 0 n), hq_al sa2 (G 1) n (va_cpy su su2 0 0 n), hq_al ca2 (G 1) n (va_cpy sc sc2 0 0 n)] ++ Z) := by
  refine hq_bI (by decide) (Nat.le_of_ble_eq_true rfl) (fun r u h => by rw [h]; exact hq_znar _) ?_
  intro p e s m args below meth c Q hx hb hml hts hown hA hK hN hret ls H locs hl hP hD hS
  have hown : s.vm.findClass "HashedLearner" = some m.cls := hown
  have hl : lv_has ls 2 [(0, .ref h), (1, .int (nI j))] := hl
  refine lv_iload_n hx hb d_H_save_0 rfl (lv_at hl 1 rfl) ?_
  refine lv_if_lt (tgt := 9) hx hb d_H_save_1 rfl (fun c1 => ?_) (fun c1 => ?_)
  · -- 1 taken
    have c1 : j < 0 := (nI_ltI (a := j) (b := 0) (by omega) (by omega)).mp c1
    exact absurd c1 (by omega)
  · -- 1 not taken
    have c1 : ¬ j < 0 := fun h => c1 ((nI_ltI (a := j) (b := 0) (by omega) (by omega)).mpr h)
    refine lv_iload_n hx hb d_H_save_4 rfl (lv_at hl 1 rfl) ?_
    refine lv_iconst (v := 2) hx hb d_H_save_5 (by decide) ?_
    refine lv_icmp_lt (tgt := 11) hx hb d_H_save_6 rfl (fun c6 => ?_) (fun c6 => ?_)
    · -- 6 taken
      have c6 : j < 2 := (nI_ltI (a := j) (b := 2) (by omega) (by omega)).mp c6
      refine lv_aload_n hx hb d_H_save_11 rfl (lv_at hl 0 rfl) ?_
      refine va_get (D := D) (ci := 7) (v := .ref mma) (C := R_H) (T := F_H) (N := 14) hx hb hts uw_H hown hK hP 0 rfl rfl 11 (by decide) (hts _ fl_H_58) (fun _ h9 => h9) rfl d_H_save_12 ?_
      refine lv_iload_n hx hb d_H_save_15 rfl (lv_at hl 1 rfl) ?_
      refine hq_aald (j := j) hx hb hK hP 1 5 rfl rfl (by omega) (by omega) d_H_save_16 ?_
      refine hq_topq (y := b2) (hmm) ?_
      refine lv_aload_n hx hb d_H_save_17 rfl (lv_at hl 0 rfl) ?_
      refine va_get (D := D) (ci := 7) (v := .ref b) (C := R_H) (T := F_H) (N := 14) hx hb hts uw_H hown hK hP 0 rfl rfl 10 (by decide) (hts _ fl_H_81) (fun _ h9 => h9) rfl d_H_save_18 ?_
      have hPc : va_P D hq_cl ([hq_o4 b2 wa2 sa2 ca2 ru2, hq_ai wa2 (G 0) n wt2, hq_al sa2 (G 1) n su2, hq_al ca2 (G 1) n sc2, hq_o4 b wa sa ca ru, hq_ai wa (G 0) n wt, hq_al sa (G 1) n su, hq_al ca (G 1) n sc] ++ ([hq_o7 h lna y rra (nI od) (nI hd) rsa (nI so) z o tl b mma vva wc, hq_aq mma (G 5) 2 mm, hq_ai vva (G 3) 2 sv] ++ Z)) H := va_P.part (cx := [hq_o4 b2 wa2 sa2 ca2 ru2, hq_ai wa2 (G 0) n wt2, hq_al sa2 (G 1) n su2, hq_al ca2 (G 1) n sc2, hq_o4 b wa sa ca ru, hq_ai wa (G 0) n wt, hq_al sa (G 1) n su, hq_al ca (G 1) n sc, hq_o7 h lna y rra (nI od) (nI hd) rsa (nI so) z o tl b mma vva wc, hq_aq mma (G 5) 2 mm, hq_ai vva (G 3) 2 sv]) hP [7, 8, 9, 10, 3, 4, 5, 6, 0, 1, 2] rfl
      have hDc : va_D A ([hq_o4 b2 wa2 sa2 ca2 ru2, hq_ai wa2 (G 0) n wt2, hq_al sa2 (G 1) n su2, hq_al ca2 (G 1) n sc2, hq_o4 b wa sa ca ru, hq_ai wa (G 0) n wt, hq_al sa (G 1) n su, hq_al ca (G 1) n sc] ++ ([hq_o7 h lna y rra (nI od) (nI hd) rsa (nI so) z o tl b mma vva wc, hq_aq mma (G 5) 2 mm, hq_ai vva (G 3) 2 sv] ++ Z)) := va_D.part (cx := [hq_o4 b2 wa2 sa2 ca2 ru2, hq_ai wa2 (G 0) n wt2, hq_al sa2 (G 1) n su2, hq_al ca2 (G 1) n sc2, hq_o4 b wa sa ca ru, hq_ai wa (G 0) n wt, hq_al sa (G 1) n su, hq_al ca (G 1) n sc, hq_o7 h lna y rra (nI od) (nI hd) rsa (nI so) z o tl b mma vva wc, hq_aq mma (G 5) 2 mm, hq_ai vva (G 3) 2 sv]) hD [7, 8, 9, 10, 3, 4, 5, 6, 0, 1, 2] (by decide) rfl
      refine hq_vF (hq_rV (As := [.ref b]) (rest := []) hx hb hml hown hts (c_Table_copyFrom l D G A ([hq_o7 h lna y rra (nI od) (nI hd) rsa (nI so) z o tl b mma vva wc, hq_aq mma (G 5) 2 mm, hq_ai vva (G 3) 2 sv] ++ Z) b2 wa2 sa2 ca2 n wt2 su2 sc2 ru2 b wa sa ca wt su sc ru (by first | assumption | omega)) yy_Table_copyFrom lk_H_172 hA hK hN hS hPc hDc 0 4 rfl rfl rfl hl.1 rfl (Nat.le_of_ble_eq_true rfl) d_H_save_21 ⟨by decide, by decide⟩ ⟨by decide, by decide⟩) hS (fun H locs hP hD hS => ?_)
      have hP : va_P D hq_cl ([hq_o4 b2 wa2 sa2 ca2 ru2, hq_ai wa2 (G 0) n (va_cpy wt wt2 0 0 n), hq_al sa2 (G 1) n (va_cpy su su2 0 0 n), hq_al ca2 (G 1) n (va_cpy sc sc2 0 0 n), hq_o4 b wa sa ca ru, hq_ai wa (G 0) n wt, hq_al sa (G 1) n su, hq_al ca (G 1) n sc, hq_o7 h lna y rra (nI od) (nI hd) rsa (nI so) z o tl b mma vva wc, hq_aq mma (G 5) 2 mm, hq_ai vva (G 3) 2 sv] ++ Z) H := hP
      have hD : va_D A ([hq_o4 b2 wa2 sa2 ca2 ru2, hq_ai wa2 (G 0) n (va_cpy wt wt2 0 0 n), hq_al sa2 (G 1) n (va_cpy su su2 0 0 n), hq_al ca2 (G 1) n (va_cpy sc sc2 0 0 n), hq_o4 b wa sa ca ru, hq_ai wa (G 0) n wt, hq_al sa (G 1) n su, hq_al ca (G 1) n sc, hq_o7 h lna y rra (nI od) (nI hd) rsa (nI so) z o tl b mma vva wc, hq_aq mma (G 5) 2 mm, hq_ai vva (G 3) 2 sv] ++ Z) := hD
      refine lv_aload_n hx hb d_H_save_24 rfl (lv_at hl 0 rfl) ?_
      refine va_get (D := D) (ci := 7) (v := .ref vva) (C := R_H) (T := F_H) (N := 14) hx hb hts uw_H hown hK hP 8 rfl rfl 12 (by decide) (hts _ fl_H_62) (fun _ h9 => h9) rfl d_H_save_25 ?_
      refine lv_iload_n hx hb d_H_save_28 rfl (lv_at hl 1 rfl) ?_
      refine lv_iconst (v := 1) hx hb d_H_save_29 (by decide) ?_
      refine hq_zast (j := j) hx hb hK hP hD hS 10 rfl (by omega) (by omega) (by decide) d_H_save_30 (fun H locs hP hD hS => ?_)
      have hP : va_P D hq_cl ([hq_o4 b2 wa2 sa2 ca2 ru2, hq_ai wa2 (G 0) n (va_cpy wt wt2 0 0 n), hq_al sa2 (G 1) n (va_cpy su su2 0 0 n), hq_al ca2 (G 1) n (va_cpy sc sc2 0 0 n), hq_o4 b wa sa ca ru, hq_ai wa (G 0) n wt, hq_al sa (G 1) n su, hq_al ca (G 1) n sc, hq_o7 h lna y rra (nI od) (nI hd) rsa (nI so) z o tl b mma vva wc, hq_aq mma (G 5) 2 mm, hq_ai vva (G 3) 2 (upd sv j 1)] ++ Z) H := hP
      have hD : va_D A ([hq_o4 b2 wa2 sa2 ca2 ru2, hq_ai wa2 (G 0) n (va_cpy wt wt2 0 0 n), hq_al sa2 (G 1) n (va_cpy su su2 0 0 n), hq_al ca2 (G 1) n (va_cpy sc sc2 0 0 n), hq_o4 b wa sa ca ru, hq_ai wa (G 0) n wt, hq_al sa (G 1) n su, hq_al ca (G 1) n sc, hq_o7 h lna y rra (nI od) (nI hd) rsa (nI so) z o tl b mma vva wc, hq_aq mma (G 5) 2 mm, hq_ai vva (G 3) 2 (upd sv j 1)] ++ Z) := hD
      refine lv_iconst (v := 1) hx hb d_H_save_31 (by decide) ?_
      have hP := va_P.part (cx := [hq_o7 h lna y rra (nI od) (nI hd) rsa (nI so) z o tl b mma vva wc, hq_aq mma (G 5) 2 mm, hq_ai vva (G 3) 2 (upd sv j 1), hq_o4 b wa sa ca ru, hq_ai wa (G 0) n wt, hq_al sa (G 1) n su, hq_al ca (G 1) n sc, hq_o4 b2 wa2 sa2 ca2 ru2, hq_ai wa2 (G 0) n (va_cpy wt wt2 0 0 n), hq_al sa2 (G 1) n (va_cpy su su2 0 0 n), hq_al ca2 (G 1) n (va_cpy sc sc2 0 0 n)]) hP [8, 9, 10, 4, 5, 6, 7, 0, 1, 2, 3] rfl
      have hD := va_D.part (cx := [hq_o7 h lna y rra (nI od) (nI hd) rsa (nI so) z o tl b mma vva wc, hq_aq mma (G 5) 2 mm, hq_ai vva (G 3) 2 (upd sv j 1), hq_o4 b wa sa ca ru, hq_ai wa (G 0) n wt, hq_al sa (G 1) n su, hq_al ca (G 1) n sc, hq_o4 b2 wa2 sa2 ca2 ru2, hq_ai wa2 (G 0) n (va_cpy wt wt2 0 0 n), hq_al sa2 (G 1) n (va_cpy su su2 0 0 n), hq_al ca2 (G 1) n (va_cpy sc sc2 0 0 n)]) hD [8, 9, 10, 4, 5, 6, 7, 0, 1, 2, 3] (by decide) rfl
      exact hret 1 () H locs 32 ls d_H_save_32 (rfl) hP hD hS
    · -- 6 not taken
      have c6 : ¬ j < 2 := fun h => c6 ((nI_ltI (a := j) (b := 2) (by omega) (by omega)).mpr h)
      exact absurd (by omega) c6
theorem d_H_load_0 : decode b_H_load 0 = .ok (.iload_n 1, 1) := by decide +kernel
theorem d_H_load_1 : decode b_H_load 1 = .ok (.ifCond .lt (17), 3) := by decide +kernel
theorem d_H_load_4 : decode b_H_load 4 = .ok (.iload_n 1, 1) := by decide +kernel
theorem d_H_load_5 : decode b_H_load 5 = .ok (.iconst 2, 1) := by decide +kernel
theorem d_H_load_6 : decode b_H_load 6 = .ok (.if_icmp .ge (12), 3) := by decide +kernel
theorem d_H_load_9 : decode b_H_load 9 = .ok (.aload_n 0, 1) := by decide +kernel
theorem d_H_load_10 : decode b_H_load 10 = .ok (.getfield 62, 3) := by decide +kernel
theorem d_H_load_13 : decode b_H_load 13 = .ok (.iload_n 1, 1) := by decide +kernel
theorem d_H_load_14 : decode b_H_load 14 = .ok (.baload, 1) := by decide +kernel
theorem d_H_load_15 : decode b_H_load 15 = .ok (.ifCond .ne (5), 3) := by decide +kernel
theorem d_H_load_18 : decode b_H_load 18 = .ok (.iconst 0, 1) := by decide +kernel
theorem d_H_load_19 : decode b_H_load 19 = .ok (.ireturn, 1) := by decide +kernel
theorem d_H_load_20 : decode b_H_load 20 = .ok (.aload_n 0, 1) := by decide +kernel
theorem d_H_load_21 : decode b_H_load 21 = .ok (.getfield 81, 3) := by decide +kernel
theorem d_H_load_24 : decode b_H_load 24 = .ok (.aload_n 0, 1) := by decide +kernel
theorem d_H_load_25 : decode b_H_load 25 = .ok (.getfield 58, 3) := by decide +kernel
theorem d_H_load_28 : decode b_H_load 28 = .ok (.iload_n 1, 1) := by decide +kernel
theorem d_H_load_29 : decode b_H_load 29 = .ok (.aaload, 1) := by decide +kernel
theorem d_H_load_30 : decode b_H_load 30 = .ok (.invokevirtual 172, 3) := by decide +kernel
theorem d_H_load_33 : decode b_H_load 33 = .ok (.iconst 1, 1) := by decide +kernel
theorem d_H_load_34 : decode b_H_load 34 = .ok (.ireturn, 1) := by decide +kernel
set_option maxHeartbeats 4000000 in
set_option maxRecDepth 100000 in
theorem c_H_load_no (l : Launch) (D : va_G) (G : Nat → ClassId) (A : Nat → Prop) (Z : va_W) (h : Nat) (lna : Nat) (y : Nat) (rra : Nat) (od : Nat) (hd : Nat) (rsa : Nat) (so : Nat) (z : Nat) (o : Nat) (tl : Nat) (b : Nat) (mma : Nat) (vva : Nat) (wc : Int32) (x : Int32) (hxx : x < 0 ∨ 1 < x) : hq_FI l D G A y_H_load b_H_load 2 .boolean 0 [.ref h, .int x] ([hq_o7 h lna y rra (nI od) (nI hd) rsa (nI so) z o tl b mma vva wc] ++ Z) (hq_z false) ([hq_o7 h lna y rra (nI od) (nI hd) rsa (nI so) z o tl b mma vva wc] ++ Z) := by
  refine hq_bI (by decide) (Nat.le_of_ble_eq_true rfl) (fun r u h => by rw [h]; exact hq_znar _) ?_
  intro p e s m args below meth c Q hx hb hml hts hown hA hK hN hret ls H locs hl hP hD hS
  have hown : s.vm.findClass "HashedLearner" = some m.cls := hown
  have hl : lv_has ls 2 [(0, .ref h), (1, .int x)] := hl
  refine lv_iload_n hx hb d_H_load_0 rfl (lv_at hl 1 rfl) ?_
  refine lv_if_lt (tgt := 18) hx hb d_H_load_1 rfl (fun c1 => ?_) (fun c1 => ?_)
  · -- 1 taken
    have c1 : x < 0 := c1
    refine lv_iconst (v := 0) hx hb d_H_load_18 (by decide) ?_
    exact hret 0 () H locs 19 ls d_H_load_19 (rfl) hP hD hS
  · -- 1 not taken
    have c1 : ¬ x < 0 := c1
    refine lv_iload_n hx hb d_H_load_4 rfl (lv_at hl 1 rfl) ?_
    refine lv_iconst (v := 2) hx hb d_H_load_5 (by decide) ?_
    refine lv_icmp_ge (tgt := 18) hx hb d_H_load_6 rfl (fun c6 => ?_) (fun c6 => ?_)
    · -- 6 taken
      have c6 : 2 ≤ x := c6
      refine lv_iconst (v := 0) hx hb d_H_load_18 (by decide) ?_
      exact hret 0 () H locs 19 ls d_H_load_19 (rfl) hP hD hS
    · -- 6 not taken
      have c6 : ¬ 2 ≤ x := c6
      exact absurd hxx (fun h9 => h9.elim c1 (hq_lt2 (Int32.not_le.mp c6)))
set_option maxHeartbeats 4000000 in
set_option maxRecDepth 100000 in
theorem c_H_load_un (l : Launch) (D : va_G) (G : Nat → ClassId) (A : Nat → Prop) (Z : va_W) (h : Nat) (lna : Nat) (y : Nat) (rra : Nat) (od : Nat) (hd : Nat) (rsa : Nat) (so : Nat) (z : Nat) (o : Nat) (tl : Nat) (b : Nat) (mma : Nat) (vva : Nat) (wc : Int32) (sv : Nat → Int32) (j : Nat) (hj : j < 2) (hs : sv j = 0) : hq_FI l D G A y_H_load b_H_load 2 .boolean 0 [.ref h, .int (nI j)] ([hq_o7 h lna y rra (nI od) (nI hd) rsa (nI so) z o tl b mma vva wc, hq_ai vva (G 3) 2 sv] ++ Z) (hq_z false) ([hq_o7 h lna y rra (nI od) (nI hd) rsa (nI so) z o tl b mma vva wc, hq_ai vva (G 3) 2 sv] ++ Z) := by
  refine hq_bI (by decide) (Nat.le_of_ble_eq_true rfl) (fun r u h => by rw [h]; exact hq_znar _) ?_
  intro p e s m args below meth c Q hx hb hml hts hown hA hK hN hret ls H locs hl hP hD hS
  have hown : s.vm.findClass "HashedLearner" = some m.cls := hown
  have hl : lv_has ls 2 [(0, .ref h), (1, .int (nI j))] := hl
  refine lv_iload_n hx hb d_H_load_0 rfl (lv_at hl 1 rfl) ?_
  refine lv_if_lt (tgt := 18) hx hb d_H_load_1 rfl (fun c1 => ?_) (fun c1 => ?_)
  · -- 1 taken
    have c1 : j < 0 := (nI_ltI (a := j) (b := 0) (by omega) (by omega)).mp c1
    exact absurd c1 (by omega)
  · -- 1 not taken
    have c1 : ¬ j < 0 := fun h => c1 ((nI_ltI (a := j) (b := 0) (by omega) (by omega)).mpr h)
    refine lv_iload_n hx hb d_H_load_4 rfl (lv_at hl 1 rfl) ?_
    refine lv_iconst (v := 2) hx hb d_H_load_5 (by decide) ?_
    refine lv_icmp_ge (tgt := 18) hx hb d_H_load_6 rfl (fun c6 => ?_) (fun c6 => ?_)
    · -- 6 taken
      have c6 : 2 ≤ j := (nI_leI (a := 2) (b := j) (by omega) (by omega)).mp c6
      exact absurd c6 (by omega)
    · -- 6 not taken
      have c6 : ¬ 2 ≤ j := fun h => c6 ((nI_leI (a := 2) (b := j) (by omega) (by omega)).mpr h)
      refine lv_aload_n hx hb d_H_load_9 rfl (lv_at hl 0 rfl) ?_
      refine va_get (D := D) (ci := 7) (v := .ref vva) (C := R_H) (T := F_H) (N := 14) hx hb hts uw_H hown hK hP 0 rfl rfl 12 (by decide) (hts _ fl_H_62) (fun _ h9 => h9) rfl d_H_load_10 ?_
      refine lv_iload_n hx hb d_H_load_13 rfl (lv_at hl 1 rfl) ?_
      refine hq_zald (j := j) hx hb hK hP 1 rfl (by omega) (by omega) d_H_load_14 ?_
      refine hq_topi (x' := 0) (hs) ?_
      refine lv_if_ne (tgt := 20) hx hb d_H_load_15 rfl (fun c15 => ?_) (fun c15 => ?_)
      · exact absurd (by decide) c15
      · skip
        refine lv_iconst (v := 0) hx hb d_H_load_18 (by decide) ?_
        exact hret 0 () H locs 19 ls d_H_load_19 (rfl) hP hD hS
set_option maxHeartbeats 4000000 in
set_option maxRecDepth 100000 in
theorem c_H_load_do (l : Launch) (D : va_G) (G : Nat → ClassId) (A : Nat → Prop) (Z : va_W) (h : Nat) (lna : Nat) (y : Nat) (rra : Nat) (od : Nat) (hd : Nat) (rsa : Nat) (so : Nat) (z : Nat) (o : Nat) (tl : Nat) (b : Nat) (mma : Nat) (vva : Nat) (wc : Int32) (mm : Nat → Option Nat) (sv : Nat → Int32) (j : Nat) (wa : Nat) (sa : Nat) (ca : Nat) (n : Nat) (wt : Nat → Int32) (su : Nat → Int64) (sc : Nat → Int64) (ru : Int32) (b2 : Nat) (wa2 : Nat) (sa2 : Nat) (ca2 : Nat) (wt2 : Nat → Int32) (su2 : Nat → Int64) (sc2 : Nat → Int64) (ru2 : Int32) (hj : j < 2) (hs : sv j = 1) (hmm : mm j = some b2) (hn : hq_pow n) : hq_FI l D G A y_H_load b_H_load 2 .boolean 2 [.ref h, .int (nI j)] ([hq_o7 h lna y rra (nI od) (nI hd) rsa (nI so) z o tl b mma vva wc, hq_aq mma (G 5) 2 mm, hq_ai vva (G 3) 2 sv, hq_o4 b wa sa ca ru, hq_ai wa (G 0) n wt, hq_al sa (G 1) n su, hq_al ca (G 1) n sc, hq_o4 b2 wa2 sa2 ca2 ru2, hq_ai wa2 (G 0) n wt2, hq_al sa2 (G 1) n su2, hq_al ca2 (G 1) n sc2] ++ Z) (hq_z true) ([hq_o7 h lna y rra (nI od) (nI hd) rsa (nI so) z o tl b mma vva wc, hq_aq mma (G 5) 2 mm, hq_ai vva (G 3) 2 sv, hq_o4 b wa sa ca ru, hq_ai wa (G 0) n (va_cpy wt2 wt 0 0 n), hq_al sa (G 1) n (va_cpy su2 su 0 0 n), hq_al ca (G 1) n (va_cpy sc2 sc 0 0 n), hq_o4 b2 wa2 sa2 ca2 ru2, hq_ai wa2 (G 0) n wt2, hq_al sa2 (G 1) n su2, hq_al ca2 (G 1) n sc2] ++ Z) := by
  refine hq_bI (by decide) (Nat.le_of_ble_eq_true rfl) (fun r u h => by rw [h]; exact hq_znar _) ?_
  intro p e s m args below meth c Q hx hb hml hts hown hA hK hN hret ls H locs hl hP hD hS
  have hown : s.vm.findClass "HashedLearner" = some m.cls := hown
  have hl : lv_has ls 2 [(0, .ref h), (1, .int (nI j))] := hl
  refine lv_iload_n hx hb d_H_load_0 rfl (lv_at hl 1 rfl) ?_
  refine lv_if_lt (tgt := 18) hx hb d_H_load_1 rfl (fun c1 => ?_) (fun c1 => ?_)
  · -- 1 taken
    have c1 : j < 0 := (nI_ltI (a := j) (b := 0) (by omega) (by omega)).mp c1
    exact absurd c1 (by omega)
  · -- 1 not taken
    have c1 : ¬ j < 0 := fun h => c1 ((nI_ltI (a := j) (b := 0) (by omega) (by omega)).mpr h)
    refine lv_iload_n hx hb d_H_load_4 rfl (lv_at hl 1 rfl) ?_
    refine lv_iconst (v := 2) hx hb d_H_load_5 (by decide) ?_
    refine lv_icmp_ge (tgt := 18) hx hb d_H_load_6 rfl (fun c6 => ?_) (fun c6 => ?_)
    · -- 6 taken
      have c6 : 2 ≤ j := (nI_leI (a := 2) (b := j) (by omega) (by omega)).mp c6
      exact absurd c6 (by omega)
    · -- 6 not taken
      have c6 : ¬ 2 ≤ j := fun h => c6 ((nI_leI (a := 2) (b := j) (by omega) (by omega)).mpr h)
      refine lv_aload_n hx hb d_H_load_9 rfl (lv_at hl 0 rfl) ?_
      refine va_get (D := D) (ci := 7) (v := .ref vva) (C := R_H) (T := F_H) (N := 14) hx hb hts uw_H hown hK hP 0 rfl rfl 12 (by decide) (hts _ fl_H_62) (fun _ h9 => h9) rfl d_H_load_10 ?_
      refine lv_iload_n hx hb d_H_load_13 rfl (lv_at hl 1 rfl) ?_
      refine hq_zald (j := j) hx hb hK hP 2 rfl (by omega) (by omega) d_H_load_14 ?_
      refine hq_topi (x' := 1) (hs) ?_
      refine lv_if_ne (tgt := 20) hx hb d_H_load_15 rfl (fun c15 => ?_) (fun c15 => ?_)
      · skip
        refine lv_aload_n hx hb d_H_load_20 rfl (lv_at hl 0 rfl) ?_
        refine va_get (D := D) (ci := 7) (v := .ref b) (C := R_H) (T := F_H) (N := 14) hx hb hts uw_H hown hK hP 0 rfl rfl 10 (by decide) (hts _ fl_H_81) (fun _ h9 => h9) rfl d_H_load_21 ?_
        refine lv_aload_n hx hb d_H_load_24 rfl (lv_at hl 0 rfl) ?_
        refine va_get (D := D) (ci := 7) (v := .ref mma) (C := R_H) (T := F_H) (N := 14) hx hb hts uw_H hown hK hP 0 rfl rfl 11 (by decide) (hts _ fl_H_58) (fun _ h9 => h9) rfl d_H_load_25 ?_
        refine lv_iload_n hx hb d_H_load_28 rfl (lv_at hl 1 rfl) ?_
        refine hq_aald (j := j) hx hb hK hP 1 5 rfl rfl (by omega) (by omega) d_H_load_29 ?_
        refine hq_topq (y := b2) (hmm) ?_
        have hPc : va_P D hq_cl ([hq_o4 b wa sa ca ru, hq_ai wa (G 0) n wt, hq_al sa (G 1) n su, hq_al ca (G 1) n sc, hq_o4 b2 wa2 sa2 ca2 ru2, hq_ai wa2 (G 0) n wt2, hq_al sa2 (G 1) n su2, hq_al ca2 (G 1) n sc2] ++ ([hq_o7 h lna y rra (nI od) (nI hd) rsa (nI so) z o tl b mma vva wc, hq_aq mma (G 5) 2 mm, hq_ai vva (G 3) 2 sv] ++ Z)) H := va_P.part (cx := [hq_o4 b wa sa ca ru, hq_ai wa (G 0) n wt, hq_al sa (G 1) n su, hq_al ca (G 1) n sc, hq_o4 b2 wa2 sa2 ca2 ru2, hq_ai wa2 (G 0) n wt2, hq_al sa2 (G 1) n su2, hq_al ca2 (G 1) n sc2, hq_o7 h lna y rra (nI od) (nI hd) rsa (nI so) z o tl b mma vva wc, hq_aq mma (G 5) 2 mm, hq_ai vva (G 3) 2 sv]) hP [3, 4, 5, 6, 7, 8, 9, 10, 0, 1, 2] rfl
        have hDc : va_D A ([hq_o4 b wa sa ca ru, hq_ai wa (G 0) n wt, hq_al sa (G 1) n su, hq_al ca (G 1) n sc, hq_o4 b2 wa2 sa2 ca2 ru2, hq_ai wa2 (G 0) n wt2, hq_al sa2 (G 1) n su2, hq_al ca2 (G 1) n sc2] ++ ([hq_o7 h lna y rra (nI od) (nI hd) rsa (nI so) z o tl b mma vva wc, hq_aq mma (G 5) 2 mm, hq_ai vva (G 3) 2 sv] ++ Z)) := va_D.part (cx := [hq_o4 b wa sa ca ru, hq_ai wa (G 0) n wt, hq_al sa (G 1) n su, hq_al ca (G 1) n sc, hq_o4 b2 wa2 sa2 ca2 ru2, hq_ai wa2 (G 0) n wt2, hq_al sa2 (G 1) n su2, hq_al ca2 (G 1) n sc2, hq_o7 h lna y rra (nI od) (nI hd) rsa (nI so) z o tl b mma vva wc, hq_aq mma (G 5) 2 mm, hq_ai vva (G 3) 2 sv]) hD [3, 4, 5, 6, 7, 8, 9, 10, 0, 1, 2] (by decide) rfl
        refine hq_vF (hq_rV (As := [.ref b2]) (rest := []) hx hb hml hown hts (c_Table_copyFrom l D G A ([hq_o7 h lna y rra (nI od) (nI hd) rsa (nI so) z o tl b mma vva wc, hq_aq mma (G 5) 2 mm, hq_ai vva (G 3) 2 sv] ++ Z) b wa sa ca n wt su sc ru b2 wa2 sa2 ca2 wt2 su2 sc2 ru2 (by first | assumption | omega)) yy_Table_copyFrom lk_H_172 hA hK hN hS hPc hDc 0 4 rfl rfl rfl hl.1 rfl (Nat.le_of_ble_eq_true rfl) d_H_load_30 ⟨by decide, by decide⟩ ⟨by decide, by decide⟩) hS (fun H locs hP hD hS => ?_)
        have hP : va_P D hq_cl ([hq_o4 b wa sa ca ru, hq_ai wa (G 0) n (va_cpy wt2 wt 0 0 n), hq_al sa (G 1) n (va_cpy su2 su 0 0 n), hq_al ca (G 1) n (va_cpy sc2 sc 0 0 n), hq_o4 b2 wa2 sa2 ca2 ru2, hq_ai wa2 (G 0) n wt2, hq_al sa2 (G 1) n su2, hq_al ca2 (G 1) n sc2, hq_o7 h lna y rra (nI od) (nI hd) rsa (nI so) z o tl b mma vva wc, hq_aq mma (G 5) 2 mm, hq_ai vva (G 3) 2 sv] ++ Z) H := hP
        have hD : va_D A ([hq_o4 b wa sa ca ru, hq_ai wa (G 0) n (va_cpy wt2 wt 0 0 n), hq_al sa (G 1) n (va_cpy su2 su 0 0 n), hq_al ca (G 1) n (va_cpy sc2 sc 0 0 n), hq_o4 b2 wa2 sa2 ca2 ru2, hq_ai wa2 (G 0) n wt2, hq_al sa2 (G 1) n su2, hq_al ca2 (G 1) n sc2, hq_o7 h lna y rra (nI od) (nI hd) rsa (nI so) z o tl b mma vva wc, hq_aq mma (G 5) 2 mm, hq_ai vva (G 3) 2 sv] ++ Z) := hD
        refine lv_iconst (v := 1) hx hb d_H_load_33 (by decide) ?_
        have hP := va_P.part (cx := [hq_o7 h lna y rra (nI od) (nI hd) rsa (nI so) z o tl b mma vva wc, hq_aq mma (G 5) 2 mm, hq_ai vva (G 3) 2 sv, hq_o4 b wa sa ca ru, hq_ai wa (G 0) n (va_cpy wt2 wt 0 0 n), hq_al sa (G 1) n (va_cpy su2 su 0 0 n), hq_al ca (G 1) n (va_cpy sc2 sc 0 0 n), hq_o4 b2 wa2 sa2 ca2 ru2, hq_ai wa2 (G 0) n wt2, hq_al sa2 (G 1) n su2, hq_al ca2 (G 1) n sc2]) hP [8, 9, 10, 0, 1, 2, 3, 4, 5, 6, 7] rfl
        have hD := va_D.part (cx := [hq_o7 h lna y rra (nI od) (nI hd) rsa (nI so) z o tl b mma vva wc, hq_aq mma (G 5) 2 mm, hq_ai vva (G 3) 2 sv, hq_o4 b wa sa ca ru, hq_ai wa (G 0) n (va_cpy wt2 wt 0 0 n), hq_al sa (G 1) n (va_cpy su2 su 0 0 n), hq_al ca (G 1) n (va_cpy sc2 sc 0 0 n), hq_o4 b2 wa2 sa2 ca2 ru2, hq_ai wa2 (G 0) n wt2, hq_al sa2 (G 1) n su2, hq_al ca2 (G 1) n sc2]) hD [8, 9, 10, 0, 1, 2, 3, 4, 5, 6, 7] (by decide) rfl
        exact hret 1 () H locs 34 ls d_H_load_34 (rfl) hP hD hS
      · exact absurd c15 (by decide)
