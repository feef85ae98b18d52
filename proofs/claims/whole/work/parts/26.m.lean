theorem d_M_predict_0 : decode b_M_predict 0 = .ok (.lconst 0, 1) := by decide +kernel
theorem d_M_predict_1 : decode b_M_predict 1 = .ok (.lstore_n 1, 1) := by decide +kernel
theorem d_M_predict_2 : decode b_M_predict 2 = .ok (.iconst 0, 1) := by decide +kernel
theorem d_M_predict_3 : decode b_M_predict 3 = .ok (.istore_n 3, 1) := by decide +kernel
theorem d_M_predict_4 : decode b_M_predict 4 = .ok (.iload_n 3, 1) := by decide +kernel
theorem d_M_predict_5 : decode b_M_predict 5 = .ok (.aload_n 0, 1) := by decide +kernel
theorem d_M_predict_6 : decode b_M_predict 6 = .ok (.getfield 161, 3) := by decide +kernel
theorem d_M_predict_9 : decode b_M_predict 9 = .ok (.if_icmp .ge (30), 3) := by decide +kernel
theorem d_M_predict_12 : decode b_M_predict 12 = .ok (.lload_n 1, 1) := by decide +kernel
theorem d_M_predict_13 : decode b_M_predict 13 = .ok (.aload_n 0, 1) := by decide +kernel
theorem d_M_predict_14 : decode b_M_predict 14 = .ok (.getfield 40, 3) := by decide +kernel
theorem d_M_predict_17 : decode b_M_predict 17 = .ok (.aload_n 0, 1) := by decide +kernel
theorem d_M_predict_18 : decode b_M_predict 18 = .ok (.iload_n 3, 1) := by decide +kernel
theorem d_M_predict_19 : decode b_M_predict 19 = .ok (.invokevirtual 173, 3) := by decide +kernel
theorem d_M_predict_22 : decode b_M_predict 22 = .ok (.laload, 1) := by decide +kernel
theorem d_M_predict_23 : decode b_M_predict 23 = .ok (.aload_n 0, 1) := by decide +kernel
theorem d_M_predict_24 : decode b_M_predict 24 = .ok (.getfield 37, 3) := by decide +kernel
theorem d_M_predict_27 : decode b_M_predict 27 = .ok (.iload_n 3, 1) := by decide +kernel
theorem d_M_predict_28 : decode b_M_predict 28 = .ok (.iaload, 1) := by decide +kernel
theorem d_M_predict_29 : decode b_M_predict 29 = .ok (.i2l, 1) := by decide +kernel
theorem d_M_predict_30 : decode b_M_predict 30 = .ok (.lmul, 1) := by decide +kernel
theorem d_M_predict_31 : decode b_M_predict 31 = .ok (.ladd, 1) := by decide +kernel
theorem d_M_predict_32 : decode b_M_predict 32 = .ok (.lstore_n 1, 1) := by decide +kernel
theorem d_M_predict_33 : decode b_M_predict 33 = .ok (.iinc 3 (1), 3) := by decide +kernel
theorem d_M_predict_36 : decode b_M_predict 36 = .ok (.goto (-32), 3) := by decide +kernel
theorem d_M_predict_39 : decode b_M_predict 39 = .ok (.lload_n 1, 1) := by decide +kernel
theorem d_M_predict_40 : decode b_M_predict 40 = .ok (.ldc2_w 176, 3) := by decide +kernel
theorem d_M_predict_43 : decode b_M_predict 43 = .ok (.ldiv, 1) := by decide +kernel
theorem d_M_predict_44 : decode b_M_predict 44 = .ok (.ldc2_w 178, 3) := by decide +kernel
theorem d_M_predict_47 : decode b_M_predict 47 = .ok (.invokestatic 132, 3) := by decide +kernel
theorem d_M_predict_50 : decode b_M_predict 50 = .ok (.lreturn, 1) := by decide +kernel
set_option maxHeartbeats 4000000 in
set_option maxRecDepth 100000 in
theorem c_M_predict (l : Launch) (D : va_G) (G : Nat → ClassId) (A : Nat → Prop) (Z : va_W) (h : Nat) (n : Nat) (kd : Int32) (ru : Int32) (ya : Nat) (sz : Nat) (ta : Nat) (la : Nat) (rg : Nat) (so : Nat) (bg : Bool) (nc : Nat) (lfa : Nat) (rta : Nat) (lb : Int32) (wo : Int32) (ft : Nat) (fha : Nat) (fva : Nat) (fla : Nat) (sp : Nat) (tc : Nat) (tha : Nat) (tva : Nat) (wa : Nat) (sa : Nat) (ca : Nat) (va : Nat) (tt : Int64) (ld : Int32) (pt : Int64) (pw : Int64) (rc : Nat) (ra : Nat) (wn : Int32) (th : Nat → Int32) (tv : Nat → Int32) (wt : Nat → Int64) (su : Nat → Int64) (sc : Nat → Int64) (hn : hq_pow n) (htc : tc ≤ 120) : hq_FL l D G A y_M_predict b_M_predict 4 1 [.ref h] ([hq_o8 h (nI n) kd ru ya (nI sz) ta la (nI rg) (nI so) (hq_z bg) (nI nc) lfa rta lb wo (nI ft) fha fva fla (nI sp) (nI tc) tha tva wa sa ca va tt ld pt pw (nI rc) ra wn, hq_ai tha (G 0) 120 th, hq_ai tva (G 0) 120 tv, hq_al wa (G 1) 96 wt, hq_al sa (G 1) 96 su, hq_al ca (G 1) 96 sc] ++ Z) (hq_prdM wt n th tv tc) ([hq_o8 h (nI n) kd ru ya (nI sz) ta la (nI rg) (nI so) (hq_z bg) (nI nc) lfa rta lb wo (nI ft) fha fva fla (nI sp) (nI tc) tha tva wa sa ca va tt ld pt pw (nI rc) ra wn, hq_ai tha (G 0) 120 th, hq_ai tva (G 0) 120 tv, hq_al wa (G 1) 96 wt, hq_al sa (G 1) 96 su, hq_al ca (G 1) 96 sc] ++ Z) := by
  refine hq_bL (by decide) (Nat.le_of_ble_eq_true rfl) ?_
  intro p e s m args below meth c Q hx hb hml hts hown hA hK hN hret ls H locs hl hP hD hS
  have hown : s.vm.findClass "HashedLearnerModel" = some m.cls := hown
  have hl : lv_has ls 4 [(0, .ref h)] := hl
  refine lv_lconst (v := 0) hx hb d_M_predict_0 (by decide) ?_
  refine lv_lstore_n (nL := 4) (lv' := [(1, .long 0), (0, .ref h)]) hx hb d_M_predict_1 rfl hl (by decide) rfl (fun ls hl => ?_)
  refine lv_iconst (v := nI 0) hx hb d_M_predict_2 (by decide) ?_
  refine lv_istore_n (nL := 4) (lv' := [(3, .int (nI 0)), (1, .long 0), (0, .ref h)]) hx hb d_M_predict_3 rfl hl (by decide) rfl (fun ls hl => ?_)
  have cut4 : ∀ (kz : Nat) (k : Nat) (v : Int64) (ls : Array Slot) (H : Heap) (locs : List Loc), tc - k = kz → (k ≤ tc) → (hq_prM wt n th tv 0 tc 0 = hq_prM wt n th tv k (tc - k) v) → lv_has ls 4 [(0, .ref h), (1, .long v), (3, .int (nI k))] → va_P D hq_cl ([hq_o8 h (nI n) kd ru ya (nI sz) ta la (nI rg) (nI so) (hq_z bg) (nI nc) lfa rta lb wo (nI ft) fha fva fla (nI sp) (nI tc) tha tva wa sa ca va tt ld pt pw (nI rc) ra wn, hq_ai tha (G 0) 120 th, hq_ai tva (G 0) 120 tv, hq_al wa (G 1) 96 wt, hq_al sa (G 1) 96 su, hq_al ca (G 1) 96 sc] ++ Z) H → va_D A ([hq_o8 h (nI n) kd ru ya (nI sz) ta la (nI rg) (nI so) (hq_z bg) (nI nc) lfa rta lb wo (nI ft) fha fva fla (nI sp) (nI tc) tha tva wa sa ca va tt ld pt pw (nI rc) ra wn, hq_ai tha (G 0) 120 th, hq_ai tva (G 0) 120 tv, hq_al wa (G 1) 96 wt, hq_al sa (G 1) 96 su, hq_al ca (G 1) 96 sc] ++ Z) → va_S A s.heap H locs → W p l e (hq_rm 1 0 0) s m args below meth c H locs 0 0 Q (F0 m 4 ls []) := by
    intro kz
    induction kz using Nat.strongRecOn with
    | ind kz ih =>
      intro k v ls H locs hkz hk hF hl hP hD hS
      subst hkz
      refine lv_iload_n hx hb d_M_predict_4 rfl (lv_at hl 2 rfl) ?_
      refine lv_aload_n hx hb d_M_predict_5 rfl (lv_at hl 0 rfl) ?_
      refine va_get (D := D) (ci := 8) (v := .int (nI tc)) (C := R_M) (T := F_M) (N := 34) hx hb hts uw_M hown hK hP 0 rfl rfl 20 (by decide) (hts _ fl_M_161) (fun _ h9 => h9) rfl d_M_predict_6 ?_
      refine lv_icmp_ge (tgt := 39) hx hb d_M_predict_9 rfl (fun c9 => ?_) (fun c9 => ?_)
      · -- 9 taken
        have c9 : tc ≤ k := (nI_leI (a := tc) (b := k) (by omega) (by omega)).mp c9
        refine lv_lload_n hx hb d_M_predict_39 rfl (lv_at hl 1 rfl) ?_
        refine lv_ldc2 (v := 10000) hx hb hown (hts _ kl_M_176) d_M_predict_40 ?_
        refine lv_ldiv hx hb d_M_predict_43 (by decide) ?_
        refine lv_ldc2 (v := 1000000) hx hb hown (hts _ kl_M_178) d_M_predict_44 ?_
        have hPc : va_P D hq_cl ([] ++ ([hq_o8 h (nI n) kd ru ya (nI sz) ta la (nI rg) (nI so) (hq_z bg) (nI nc) lfa rta lb wo (nI ft) fha fva fla (nI sp) (nI tc) tha tva wa sa ca va tt ld pt pw (nI rc) ra wn, hq_ai tha (G 0) 120 th, hq_ai tva (G 0) 120 tv, hq_al wa (G 1) 96 wt, hq_al sa (G 1) 96 su, hq_al ca (G 1) 96 sc] ++ Z)) H := hP
        have hDc : va_D A ([] ++ ([hq_o8 h (nI n) kd ru ya (nI sz) ta la (nI rg) (nI so) (hq_z bg) (nI nc) lfa rta lb wo (nI ft) fha fva fla (nI sp) (nI tc) tha tva wa sa ca va tt ld pt pw (nI rc) ra wn, hq_ai tha (G 0) 120 th, hq_ai tva (G 0) 120 tv, hq_al wa (G 1) 96 wt, hq_al sa (G 1) 96 su, hq_al ca (G 1) 96 sc] ++ Z)) := hD
        refine hq_lF (hq_rS (As := [.long (v / 10000), .long 1000000]) (rest := []) hx hb hml hown hts (c_M_clip l D G A ([hq_o8 h (nI n) kd ru ya (nI sz) ta la (nI rg) (nI so) (hq_z bg) (nI nc) lfa rta lb wo (nI ft) fha fva fla (nI sp) (nI tc) tha tva wa sa ca va tt ld pt pw (nI rc) ra wn, hq_ai tha (G 0) 120 th, hq_ai tva (G 0) 120 tv, hq_al wa (G 1) 96 wt, hq_al sa (G 1) 96 su, hq_al ca (G 1) 96 sc] ++ Z) (v / 10000) 1000000) yy_M_clip lk_M_132 hA hK hN hS hPc hDc rfl hl.1 rfl (Nat.le_of_ble_eq_true rfl) d_M_predict_47 ⟨by decide, by decide⟩ ⟨by decide, by decide⟩) hS (fun H locs hP hD hS => ?_)
        have hP : va_P D hq_cl ([hq_o8 h (nI n) kd ru ya (nI sz) ta la (nI rg) (nI so) (hq_z bg) (nI nc) lfa rta lb wo (nI ft) fha fva fla (nI sp) (nI tc) tha tva wa sa ca va tt ld pt pw (nI rc) ra wn, hq_ai tha (G 0) 120 th, hq_ai tva (G 0) 120 tv, hq_al wa (G 1) 96 wt, hq_al sa (G 1) 96 su, hq_al ca (G 1) 96 sc] ++ Z) H := hP
        have hD : va_D A ([hq_o8 h (nI n) kd ru ya (nI sz) ta la (nI rg) (nI so) (hq_z bg) (nI nc) lfa rta lb wo (nI ft) fha fva fla (nI sp) (nI tc) tha tva wa sa ca va tt ld pt pw (nI rc) ra wn, hq_ai tha (G 0) 120 th, hq_ai tva (G 0) 120 tv, hq_al wa (G 1) 96 wt, hq_al sa (G 1) 96 su, hq_al ca (G 1) 96 sc] ++ Z) := hD
        exact hret (f_M_clip (v / 10000) 1000000) () H locs 50 ls d_M_predict_50 (by rw [hq_prdM, hF, hq_prM_end (wt := wt) (n := n) (th := th) (tv := tv) (k := k) (j := tc) (by omega)]) hP hD hS
      · -- 9 not taken
        have c9 : ¬ tc ≤ k := fun h => c9 ((nI_leI (a := tc) (b := k) (by omega) (by omega)).mpr h)
        refine lv_lload_n hx hb d_M_predict_12 rfl (lv_at hl 1 rfl) ?_
        refine lv_aload_n hx hb d_M_predict_13 rfl (lv_at hl 0 rfl) ?_
        refine va_get (D := D) (ci := 8) (v := .ref wa) (C := R_M) (T := F_M) (N := 34) hx hb hts uw_M hown hK hP 0 rfl rfl 23 (by decide) (hts _ fl_M_40) (fun _ h9 => h9) rfl d_M_predict_14 ?_
        refine lv_aload_n hx hb d_M_predict_17 rfl (lv_at hl 0 rfl) ?_
        refine lv_iload_n hx hb d_M_predict_18 rfl (lv_at hl 2 rfl) ?_
        have hPc : va_P D hq_cl ([hq_o8 h (nI n) kd ru ya (nI sz) ta la (nI rg) (nI so) (hq_z bg) (nI nc) lfa rta lb wo (nI ft) fha fva fla (nI sp) (nI tc) tha tva wa sa ca va tt ld pt pw (nI rc) ra wn, hq_ai tha (G 0) 120 th] ++ ([hq_ai tva (G 0) 120 tv, hq_al wa (G 1) 96 wt, hq_al sa (G 1) 96 su, hq_al ca (G 1) 96 sc] ++ Z)) H := hP
        have hDc : va_D A ([hq_o8 h (nI n) kd ru ya (nI sz) ta la (nI rg) (nI so) (hq_z bg) (nI nc) lfa rta lb wo (nI ft) fha fva fla (nI sp) (nI tc) tha tva wa sa ca va tt ld pt pw (nI rc) ra wn, hq_ai tha (G 0) 120 th] ++ ([hq_ai tva (G 0) 120 tv, hq_al wa (G 1) 96 wt, hq_al sa (G 1) 96 su, hq_al ca (G 1) 96 sc] ++ Z)) := hD
        refine hq_iF (hq_rV (As := [.int (nI k)]) (rest := [.ref wa, .long v]) hx hb hml hown hts (c_M_slot l D G A ([hq_ai tva (G 0) 120 tv, hq_al wa (G 1) 96 wt, hq_al sa (G 1) 96 su, hq_al ca (G 1) 96 sc] ++ Z) h ([.int (nI n), .int kd, .int ru, .ref ya, .int (nI sz), .ref ta, .ref la, .int (nI rg), .int (nI so), .int (hq_z bg), .int (nI nc), .ref lfa, .ref rta, .int lb, .int wo, .int (nI ft), .ref fha, .ref fva, .ref fla, .int (nI sp), .int (nI tc), .ref tha, .ref tva, .ref wa, .ref sa, .ref ca, .ref va, .long tt, .int ld, .long pt, .long pw, .int (nI rc), .ref ra, .int wn]) n tha th k (by first | assumption | rfl) (by first | assumption | rfl) (by first | assumption | omega) (by first | assumption | omega)) yy_M_slot lk_M_173 hA hK hN hS hPc hDc 0 8 rfl rfl rfl hl.1 rfl (Nat.le_of_ble_eq_true rfl) d_M_predict_19 ⟨by decide, by decide⟩ ⟨by decide, by decide⟩) hS (fun H locs hP hD hS => ?_)
        have hP : va_P D hq_cl ([hq_o8 h (nI n) kd ru ya (nI sz) ta la (nI rg) (nI so) (hq_z bg) (nI nc) lfa rta lb wo (nI ft) fha fva fla (nI sp) (nI tc) tha tva wa sa ca va tt ld pt pw (nI rc) ra wn, hq_ai tha (G 0) 120 th, hq_ai tva (G 0) 120 tv, hq_al wa (G 1) 96 wt, hq_al sa (G 1) 96 su, hq_al ca (G 1) 96 sc] ++ Z) H := hP
        have hD : va_D A ([hq_o8 h (nI n) kd ru ya (nI sz) ta la (nI rg) (nI so) (hq_z bg) (nI nc) lfa rta lb wo (nI ft) fha fva fla (nI sp) (nI tc) tha tva wa sa ca va tt ld pt pw (nI rc) ra wn, hq_ai tha (G 0) 120 th, hq_ai tva (G 0) 120 tv, hq_al wa (G 1) 96 wt, hq_al sa (G 1) 96 su, hq_al ca (G 1) 96 sc] ++ Z) := hD
        have hsl := hq_slot_lt96 hn (th k)
        refine hq_lald (j := hq_slot n (th k)) hx hb hK hP 3 rfl (hsl) (by omega) d_M_predict_22 ?_
        refine lv_aload_n hx hb d_M_predict_23 rfl (lv_at hl 0 rfl) ?_
        refine va_get (D := D) (ci := 8) (v := .ref tva) (C := R_M) (T := F_M) (N := 34) hx hb hts uw_M hown hK hP 0 rfl rfl 22 (by decide) (hts _ fl_M_37) (fun _ h9 => h9) rfl d_M_predict_24 ?_
        refine lv_iload_n hx hb d_M_predict_27 rfl (lv_at hl 2 rfl) ?_
        refine hq_iald (j := k) hx hb hK hP 2 rfl (by omega) (by omega) d_M_predict_28 ?_
        refine lv_i2l (v := Int32.toInt64 (tv k)) hx hb d_M_predict_29 rfl ?_
        refine lv_lmul hx hb d_M_predict_30 ?_
        refine lv_ladd hx hb d_M_predict_31 ?_
        refine lv_lstore_n (nL := 4) (lv' := [(1, .long (v + ((wt (hq_slot n (th k))) * (Int32.toInt64 (tv k))))), (0, .ref h), (3, .int (nI k))]) hx hb d_M_predict_32 rfl hl (by decide) rfl (fun ls hl => ?_)
        refine lv_iinc (nL := 4) (k := 2) (v := nI (k + 1)) (lv' := [(3, .int (nI (k + 1))), (1, .long (v + ((wt (hq_slot n (th k))) * (Int32.toInt64 (tv k))))), (0, .ref h)]) hx hb d_M_predict_33 hl rfl (nI_add k 1) (by decide) rfl (fun ls hl => ?_)
        refine lv_goto (tgt := 4) hx hb d_M_predict_36 rfl ?_
        exact ih _ (by omega) (k + 1) (v + ((wt (hq_slot n (th k))) * (Int32.toInt64 (tv k)))) ls H locs rfl (by first | assumption | omega) (hF.trans (hq_prM_go (by omega))) (lv_sub hl [2, 1, 0] rfl) hP hD hS
  exact cut4 _ 0 0 ls H locs rfl (by first | assumption | omega) (rfl) (lv_sub hl [2, 1, 0] rfl) hP hD hS
theorem d_M_scaled_0 : decode b_M_scaled 0 = .ok (.lload_n 2, 1) := by decide +kernel
theorem d_M_scaled_1 : decode b_M_scaled 1 = .ok (.lconst 0, 1) := by decide +kernel
theorem d_M_scaled_2 : decode b_M_scaled 2 = .ok (.lcmp, 1) := by decide +kernel
theorem d_M_scaled_3 : decode b_M_scaled 3 = .ok (.ifCond .ge (8), 3) := by decide +kernel
theorem d_M_scaled_6 : decode b_M_scaled 6 = .ok (.lload_n 2, 1) := by decide +kernel
theorem d_M_scaled_7 : decode b_M_scaled 7 = .ok (.lneg, 1) := by decide +kernel
theorem d_M_scaled_8 : decode b_M_scaled 8 = .ok (.goto (4), 3) := by decide +kernel
theorem d_M_scaled_11 : decode b_M_scaled 11 = .ok (.lload_n 2, 1) := by decide +kernel
theorem d_M_scaled_12 : decode b_M_scaled 12 = .ok (.lstore 6, 2) := by decide +kernel
theorem d_M_scaled_14 : decode b_M_scaled 14 = .ok (.lload 6, 2) := by decide +kernel
theorem d_M_scaled_16 : decode b_M_scaled 16 = .ok (.aload_n 0, 1) := by decide +kernel
theorem d_M_scaled_17 : decode b_M_scaled 17 = .ok (.getfield 47, 3) := by decide +kernel
theorem d_M_scaled_20 : decode b_M_scaled 20 = .ok (.iload_n 1, 1) := by decide +kernel
theorem d_M_scaled_21 : decode b_M_scaled 21 = .ok (.laload, 1) := by decide +kernel
theorem d_M_scaled_22 : decode b_M_scaled 22 = .ok (.lcmp, 1) := by decide +kernel
theorem d_M_scaled_23 : decode b_M_scaled 23 = .ok (.ifCond .le (33), 3) := by decide +kernel
theorem d_M_scaled_26 : decode b_M_scaled 26 = .ok (.aload_n 0, 1) := by decide +kernel
theorem d_M_scaled_27 : decode b_M_scaled 27 = .ok (.getfield 40, 3) := by decide +kernel
theorem d_M_scaled_30 : decode b_M_scaled 30 = .ok (.iload_n 1, 1) := by decide +kernel
theorem d_M_scaled_31 : decode b_M_scaled 31 = .ok (.aload_n 0, 1) := by decide +kernel
theorem d_M_scaled_32 : decode b_M_scaled 32 = .ok (.getfield 40, 3) := by decide +kernel
theorem d_M_scaled_35 : decode b_M_scaled 35 = .ok (.iload_n 1, 1) := by decide +kernel
theorem d_M_scaled_36 : decode b_M_scaled 36 = .ok (.laload, 1) := by decide +kernel
theorem d_M_scaled_37 : decode b_M_scaled 37 = .ok (.aload_n 0, 1) := by decide +kernel
theorem d_M_scaled_38 : decode b_M_scaled 38 = .ok (.getfield 47, 3) := by decide +kernel
theorem d_M_scaled_41 : decode b_M_scaled 41 = .ok (.iload_n 1, 1) := by decide +kernel
theorem d_M_scaled_42 : decode b_M_scaled 42 = .ok (.laload, 1) := by decide +kernel
theorem d_M_scaled_43 : decode b_M_scaled 43 = .ok (.lmul, 1) := by decide +kernel
theorem d_M_scaled_44 : decode b_M_scaled 44 = .ok (.lload 6, 2) := by decide +kernel
theorem d_M_scaled_46 : decode b_M_scaled 46 = .ok (.ldiv, 1) := by decide +kernel
theorem d_M_scaled_47 : decode b_M_scaled 47 = .ok (.lastore, 1) := by decide +kernel
theorem d_M_scaled_48 : decode b_M_scaled 48 = .ok (.aload_n 0, 1) := by decide +kernel
theorem d_M_scaled_49 : decode b_M_scaled 49 = .ok (.getfield 47, 3) := by decide +kernel
theorem d_M_scaled_52 : decode b_M_scaled 52 = .ok (.iload_n 1, 1) := by decide +kernel
theorem d_M_scaled_53 : decode b_M_scaled 53 = .ok (.lload 6, 2) := by decide +kernel
theorem d_M_scaled_55 : decode b_M_scaled 55 = .ok (.lastore, 1) := by decide +kernel
theorem d_M_scaled_56 : decode b_M_scaled 56 = .ok (.lload_n 2, 1) := by decide +kernel
theorem d_M_scaled_57 : decode b_M_scaled 57 = .ok (.lconst 0, 1) := by decide +kernel
theorem d_M_scaled_58 : decode b_M_scaled 58 = .ok (.lcmp, 1) := by decide +kernel
theorem d_M_scaled_59 : decode b_M_scaled 59 = .ok (.ifCond .eq (75), 3) := by decide +kernel
theorem d_M_scaled_62 : decode b_M_scaled 62 = .ok (.aload_n 0, 1) := by decide +kernel
theorem d_M_scaled_63 : decode b_M_scaled 63 = .ok (.getfield 44, 3) := by decide +kernel
theorem d_M_scaled_66 : decode b_M_scaled 66 = .ok (.iload_n 1, 1) := by decide +kernel
theorem d_M_scaled_67 : decode b_M_scaled 67 = .ok (.aload_n 0, 1) := by decide +kernel
theorem d_M_scaled_68 : decode b_M_scaled 68 = .ok (.getfield 44, 3) := by decide +kernel
theorem d_M_scaled_71 : decode b_M_scaled 71 = .ok (.iload_n 1, 1) := by decide +kernel
theorem d_M_scaled_72 : decode b_M_scaled 72 = .ok (.laload, 1) := by decide +kernel
theorem d_M_scaled_73 : decode b_M_scaled 73 = .ok (.lload 4, 2) := by decide +kernel
theorem d_M_scaled_75 : decode b_M_scaled 75 = .ok (.lload 4, 2) := by decide +kernel
theorem d_M_scaled_77 : decode b_M_scaled 77 = .ok (.lmul, 1) := by decide +kernel
theorem d_M_scaled_78 : decode b_M_scaled 78 = .ok (.ladd, 1) := by decide +kernel
theorem d_M_scaled_79 : decode b_M_scaled 79 = .ok (.ldc2_w 188, 3) := by decide +kernel
theorem d_M_scaled_82 : decode b_M_scaled 82 = .ok (.invokestatic 132, 3) := by decide +kernel
theorem d_M_scaled_85 : decode b_M_scaled 85 = .ok (.lastore, 1) := by decide +kernel
theorem d_M_scaled_86 : decode b_M_scaled 86 = .ok (.lconst 1, 1) := by decide +kernel
theorem d_M_scaled_87 : decode b_M_scaled 87 = .ok (.aload_n 0, 1) := by decide +kernel
theorem d_M_scaled_88 : decode b_M_scaled 88 = .ok (.getfield 44, 3) := by decide +kernel
theorem d_M_scaled_91 : decode b_M_scaled 91 = .ok (.iload_n 1, 1) := by decide +kernel
theorem d_M_scaled_92 : decode b_M_scaled 92 = .ok (.laload, 1) := by decide +kernel
theorem d_M_scaled_93 : decode b_M_scaled 93 = .ok (.invokestatic 190, 3) := by decide +kernel
theorem d_M_scaled_96 : decode b_M_scaled 96 = .ok (.ladd, 1) := by decide +kernel
theorem d_M_scaled_97 : decode b_M_scaled 97 = .ok (.aload_n 0, 1) := by decide +kernel
theorem d_M_scaled_98 : decode b_M_scaled 98 = .ok (.getfield 47, 3) := by decide +kernel
theorem d_M_scaled_101 : decode b_M_scaled 101 = .ok (.iload_n 1, 1) := by decide +kernel
theorem d_M_scaled_102 : decode b_M_scaled 102 = .ok (.laload, 1) := by decide +kernel
theorem d_M_scaled_103 : decode b_M_scaled 103 = .ok (.lmul, 1) := by decide +kernel
theorem d_M_scaled_104 : decode b_M_scaled 104 = .ok (.lstore 8, 2) := by decide +kernel
theorem d_M_scaled_106 : decode b_M_scaled 106 = .ok (.aload_n 0, 1) := by decide +kernel
theorem d_M_scaled_107 : decode b_M_scaled 107 = .ok (.getfield 40, 3) := by decide +kernel
theorem d_M_scaled_110 : decode b_M_scaled 110 = .ok (.iload_n 1, 1) := by decide +kernel
theorem d_M_scaled_111 : decode b_M_scaled 111 = .ok (.aload_n 0, 1) := by decide +kernel
theorem d_M_scaled_112 : decode b_M_scaled 112 = .ok (.getfield 40, 3) := by decide +kernel
theorem d_M_scaled_115 : decode b_M_scaled 115 = .ok (.iload_n 1, 1) := by decide +kernel
theorem d_M_scaled_116 : decode b_M_scaled 116 = .ok (.laload, 1) := by decide +kernel
theorem d_M_scaled_117 : decode b_M_scaled 117 = .ok (.ldc2_w 194, 3) := by decide +kernel
theorem d_M_scaled_120 : decode b_M_scaled 120 = .ok (.lload 4, 2) := by decide +kernel
theorem d_M_scaled_122 : decode b_M_scaled 122 = .ok (.lmul, 1) := by decide +kernel
theorem d_M_scaled_123 : decode b_M_scaled 123 = .ok (.lload 8, 2) := by decide +kernel
theorem d_M_scaled_125 : decode b_M_scaled 125 = .ok (.ldiv, 1) := by decide +kernel
theorem d_M_scaled_126 : decode b_M_scaled 126 = .ok (.lsub, 1) := by decide +kernel
theorem d_M_scaled_127 : decode b_M_scaled 127 = .ok (.ldc2_w 196, 3) := by decide +kernel
theorem d_M_scaled_130 : decode b_M_scaled 130 = .ok (.invokestatic 132, 3) := by decide +kernel
theorem d_M_scaled_133 : decode b_M_scaled 133 = .ok (.lastore, 1) := by decide +kernel
theorem d_M_scaled_134 : decode b_M_scaled 134 = .ok (.return_, 1) := by decide +kernel
set_option maxHeartbeats 4000000 in
set_option maxRecDepth 100000 in
theorem c_M_scaled (l : Launch) (D : va_G) (G : Nat → ClassId) (A : Nat → Prop) (Z : va_W) (h : Nat) (n : Nat) (kd : Int32) (ru : Int32) (ya : Nat) (sz : Nat) (ta : Nat) (la : Nat) (rg : Nat) (so : Nat) (bg : Bool) (nc : Nat) (lfa : Nat) (rta : Nat) (lb : Int32) (wo : Int32) (ft : Nat) (fha : Nat) (fva : Nat) (fla : Nat) (sp : Nat) (tc : Nat) (tha : Nat) (tva : Nat) (wa : Nat) (sa : Nat) (ca : Nat) (va : Nat) (tt : Int64) (ld : Int32) (pt : Int64) (pw : Int64) (rc : Nat) (ra : Nat) (wn : Int32) (wt : Nat → Int64) (su : Nat → Int64) (sc : Nat → Int64) (a : Nat) (x : Int64) (d : Int64) (hn : hq_pow n) (ha : a < 96) (hs0 : 0 ≤ (su a).toInt) (hs1 : (su a).toInt ≤ 10000000000000000) (hd0 : -100000000 ≤ d.toInt) (hd1 : d.toInt ≤ 100000000) (hc0 : 0 ≤ (sc a).toInt) (hc1 : (sc a).toInt ≤ 99999) (hx0 : -99999 ≤ x.toInt) (hx1 : x.toInt ≤ 99999) : hq_FV l D G A y_M_scaled b_M_scaled 10 1 [.ref h, .int (nI a), .long x, .long d] ([hq_o8 h (nI n) kd ru ya (nI sz) ta la (nI rg) (nI so) (hq_z bg) (nI nc) lfa rta lb wo (nI ft) fha fva fla (nI sp) (nI tc) tha tva wa sa ca va tt ld pt pw (nI rc) ra wn, hq_al wa (G 1) 96 wt, hq_al sa (G 1) 96 su, hq_al ca (G 1) 96 sc] ++ Z) ([hq_o8 h (nI n) kd ru ya (nI sz) ta la (nI rg) (nI so) (hq_z bg) (nI nc) lfa rta lb wo (nI ft) fha fva fla (nI sp) (nI tc) tha tva wa sa ca va tt ld pt pw (nI rc) ra wn, hq_al wa (G 1) 96 (if x = 0 then vp_updL wt a (hq_m0w1 (wt a) (sc a) x) else vp_updL wt a (hq_m0w (wt a) (su a) (sc a) x d)), hq_al sa (G 1) 96 (if x = 0 then su else vp_updL su a (hq_s1M (su a) d)), hq_al ca (G 1) 96 (vp_updL sc a (hq_m0c (sc a) x))] ++ Z) := by
  refine hq_bV (by decide) (Nat.le_of_ble_eq_true rfl) ?_
  intro p e s m args below meth c Q hx hb hml hts hown hA hK hN hin hret ls H locs hl hP hD hS
  have hown : s.vm.findClass "HashedLearnerModel" = some m.cls := hown
  have hl : lv_has ls 10 [(0, .ref h), (1, .int (nI a)), (2, .long x), (4, .long d)] := hl
  have cut12 : ∀ (ls : Array Slot) (H : Heap) (locs : List Loc), lv_has ls 10 [(0, .ref h), (1, .int (nI a)), (2, .long x), (4, .long d)] → va_P D hq_cl ([hq_o8 h (nI n) kd ru ya (nI sz) ta la (nI rg) (nI so) (hq_z bg) (nI nc) lfa rta lb wo (nI ft) fha fva fla (nI sp) (nI tc) tha tva wa sa ca va tt ld pt pw (nI rc) ra wn, hq_al wa (G 1) 96 wt, hq_al sa (G 1) 96 su, hq_al ca (G 1) 96 sc] ++ Z) H → va_D A ([hq_o8 h (nI n) kd ru ya (nI sz) ta la (nI rg) (nI so) (hq_z bg) (nI nc) lfa rta lb wo (nI ft) fha fva fla (nI sp) (nI tc) tha tva wa sa ca va tt ld pt pw (nI rc) ra wn, hq_al wa (G 1) 96 wt, hq_al sa (G 1) 96 su, hq_al ca (G 1) 96 sc] ++ Z) → va_S A s.heap H locs → W p l e (hq_rm 1 0 0) s m args below meth c H locs 0 0 Q (F0 m 12 ls [.long (hq_mM x)]) := by
    intro ls H locs hl hP hD hS
    refine lv_lstore (nL := 10) (lv' := [(6, .long (hq_mM x)), (0, .ref h), (1, .int (nI a)), (2, .long x), (4, .long d)]) hx hb d_M_scaled_12 hl (by decide) rfl (fun ls hl => ?_)
    refine lv_lload hx hb d_M_scaled_14 (lv_at hl 0 rfl) ?_
    refine lv_aload_n hx hb d_M_scaled_16 rfl (lv_at hl 1 rfl) ?_
    refine va_get (D := D) (ci := 8) (v := .ref ca) (C := R_M) (T := F_M) (N := 34) hx hb hts uw_M hown hK hP 0 rfl rfl 25 (by decide) (hts _ fl_M_47) (fun _ h9 => h9) rfl d_M_scaled_17 ?_
    refine lv_iload_n hx hb d_M_scaled_20 rfl (lv_at hl 2 rfl) ?_
    refine hq_lald (j := a) hx hb hK hP 3 rfl (by omega) (by omega) d_M_scaled_21 ?_
    refine W.lcmp hx hb d_M_scaled_22 ?_
    refine lv_if_le (tgt := 56) hx hb d_M_scaled_23 rfl (fun c23 => ?_) (fun c23 => ?_)
    · -- 23 taken
      have c23 : (hq_mM x) ≤ (sc a) := (lg_cmp_le (hq_mM x) (sc a)).mp c23
      refine lv_lload_n hx hb d_M_scaled_56 rfl (lv_at hl 3 rfl) ?_
      refine lv_lconst (v := 0) hx hb d_M_scaled_57 (by decide) ?_
      refine W.lcmp hx hb d_M_scaled_58 ?_
      refine lv_if_eq (tgt := 134) hx hb d_M_scaled_59 rfl (fun c59 => ?_) (fun c59 => ?_)
      · -- 59 taken
        have c59 : x = 0 := (lg_cmp_eq x 0).mp c59
        have e9_0 : (if x = 0 then vp_updL wt a (hq_m0w1 (wt a) (sc a) x) else vp_updL wt a (hq_m0w (wt a) (su a) (sc a) x d)) = wt := by first | (rw [if_pos c59]; done) | (rw [if_neg c59]; done) | (rw [if_pos c59, hq_m0w1, if_pos c23, hq_updL_id]; done) | (rw [if_pos c59, hq_m0w1, if_neg c23]; done) | (rw [if_neg c59, hq_updL2]; done) | (rw [hq_m0c, if_pos c23, hq_updL_id]; done) | (rw [hq_m0c, if_neg c23]; done)
        have e9_1 : (if x = 0 then su else vp_updL su a (hq_s1M (su a) d)) = su := by first | (rw [if_pos c59]; done) | (rw [if_neg c59]; done) | (rw [if_pos c59, hq_m0w1, if_pos c23, hq_updL_id]; done) | (rw [if_pos c59, hq_m0w1, if_neg c23]; done) | (rw [if_neg c59, hq_updL2]; done) | (rw [hq_m0c, if_pos c23, hq_updL_id]; done) | (rw [hq_m0c, if_neg c23]; done)
        have e9_2 : (vp_updL sc a (hq_m0c (sc a) x)) = sc := by first | (rw [if_pos c59]; done) | (rw [if_neg c59]; done) | (rw [if_pos c59, hq_m0w1, if_pos c23, hq_updL_id]; done) | (rw [if_pos c59, hq_m0w1, if_neg c23]; done) | (rw [if_neg c59, hq_updL2]; done) | (rw [hq_m0c, if_pos c23, hq_updL_id]; done) | (rw [hq_m0c, if_neg c23]; done)
        have hP : va_P D hq_cl ([hq_o8 h (nI n) kd ru ya (nI sz) ta la (nI rg) (nI so) (hq_z bg) (nI nc) lfa rta lb wo (nI ft) fha fva fla (nI sp) (nI tc) tha tva wa sa ca va tt ld pt pw (nI rc) ra wn, hq_al wa (G 1) 96 (if x = 0 then vp_updL wt a (hq_m0w1 (wt a) (sc a) x) else vp_updL wt a (hq_m0w (wt a) (su a) (sc a) x d)), hq_al sa (G 1) 96 (if x = 0 then su else vp_updL su a (hq_s1M (su a) d)), hq_al ca (G 1) 96 (vp_updL sc a (hq_m0c (sc a) x))] ++ Z) H := by rw [e9_0, e9_1, e9_2]; exact hP
        have hD : va_D A ([hq_o8 h (nI n) kd ru ya (nI sz) ta la (nI rg) (nI so) (hq_z bg) (nI nc) lfa rta lb wo (nI ft) fha fva fla (nI sp) (nI tc) tha tva wa sa ca va tt ld pt pw (nI rc) ra wn, hq_al wa (G 1) 96 (if x = 0 then vp_updL wt a (hq_m0w1 (wt a) (sc a) x) else vp_updL wt a (hq_m0w (wt a) (su a) (sc a) x d)), hq_al sa (G 1) 96 (if x = 0 then su else vp_updL su a (hq_s1M (su a) d)), hq_al ca (G 1) 96 (vp_updL sc a (hq_m0c (sc a) x))] ++ Z) := by rw [e9_0, e9_1, e9_2]; exact hD
        exact hret () H locs 134 ls d_M_scaled_134 (trivial) hP hD hS
      · -- 59 not taken
        have c59 : ¬ x = 0 := fun h => c59 ((lg_cmp_eq x 0).mpr h)
        refine lv_aload_n hx hb d_M_scaled_62 rfl (lv_at hl 1 rfl) ?_
        refine va_get (D := D) (ci := 8) (v := .ref sa) (C := R_M) (T := F_M) (N := 34) hx hb hts uw_M hown hK hP 0 rfl rfl 24 (by decide) (hts _ fl_M_44) (fun _ h9 => h9) rfl d_M_scaled_63 ?_
        refine lv_iload_n hx hb d_M_scaled_66 rfl (lv_at hl 2 rfl) ?_
        refine lv_aload_n hx hb d_M_scaled_67 rfl (lv_at hl 1 rfl) ?_
        refine va_get (D := D) (ci := 8) (v := .ref sa) (C := R_M) (T := F_M) (N := 34) hx hb hts uw_M hown hK hP 0 rfl rfl 24 (by decide) (hts _ fl_M_44) (fun _ h9 => h9) rfl d_M_scaled_68 ?_
        refine lv_iload_n hx hb d_M_scaled_71 rfl (lv_at hl 2 rfl) ?_
        refine hq_lald (j := a) hx hb hK hP 2 rfl (by omega) (by omega) d_M_scaled_72 ?_
        refine lv_lload hx hb d_M_scaled_73 (lv_at hl 4 rfl) ?_
        refine lv_lload hx hb d_M_scaled_75 (lv_at hl 4 rfl) ?_
        refine lv_lmul hx hb d_M_scaled_77 ?_
        refine lv_ladd hx hb d_M_scaled_78 ?_
        refine lv_ldc2 (v := 10000000000000000) hx hb hown (hts _ kl_M_188) d_M_scaled_79 ?_
        have hPc : va_P D hq_cl ([] ++ ([hq_o8 h (nI n) kd ru ya (nI sz) ta la (nI rg) (nI so) (hq_z bg) (nI nc) lfa rta lb wo (nI ft) fha fva fla (nI sp) (nI tc) tha tva wa sa ca va tt ld pt pw (nI rc) ra wn, hq_al wa (G 1) 96 wt, hq_al sa (G 1) 96 su, hq_al ca (G 1) 96 sc] ++ Z)) H := hP
        have hDc : va_D A ([] ++ ([hq_o8 h (nI n) kd ru ya (nI sz) ta la (nI rg) (nI so) (hq_z bg) (nI nc) lfa rta lb wo (nI ft) fha fva fla (nI sp) (nI tc) tha tva wa sa ca va tt ld pt pw (nI rc) ra wn, hq_al wa (G 1) 96 wt, hq_al sa (G 1) 96 su, hq_al ca (G 1) 96 sc] ++ Z)) := hD
        refine hq_lF (hq_rS (As := [.long ((su a) + (d * d)), .long 10000000000000000]) (rest := [.int (nI a), .ref sa]) hx hb hml hown hts (c_M_clip l D G A ([hq_o8 h (nI n) kd ru ya (nI sz) ta la (nI rg) (nI so) (hq_z bg) (nI nc) lfa rta lb wo (nI ft) fha fva fla (nI sp) (nI tc) tha tva wa sa ca va tt ld pt pw (nI rc) ra wn, hq_al wa (G 1) 96 wt, hq_al sa (G 1) 96 su, hq_al ca (G 1) 96 sc] ++ Z) ((su a) + (d * d)) 10000000000000000) yy_M_clip lk_M_132 hA hK hN hS hPc hDc rfl hl.1 rfl (Nat.le_of_ble_eq_true rfl) d_M_scaled_82 ⟨by decide, by decide⟩ ⟨by decide, by decide⟩) hS (fun H locs hP hD hS => ?_)
        have hP : va_P D hq_cl ([hq_o8 h (nI n) kd ru ya (nI sz) ta la (nI rg) (nI so) (hq_z bg) (nI nc) lfa rta lb wo (nI ft) fha fva fla (nI sp) (nI tc) tha tva wa sa ca va tt ld pt pw (nI rc) ra wn, hq_al wa (G 1) 96 wt, hq_al sa (G 1) 96 su, hq_al ca (G 1) 96 sc] ++ Z) H := hP
        have hD : va_D A ([hq_o8 h (nI n) kd ru ya (nI sz) ta la (nI rg) (nI so) (hq_z bg) (nI nc) lfa rta lb wo (nI ft) fha fva fla (nI sp) (nI tc) tha tva wa sa ca va tt ld pt pw (nI rc) ra wn, hq_al wa (G 1) 96 wt, hq_al sa (G 1) 96 su, hq_al ca (G 1) 96 sc] ++ Z) := hD
        refine hq_topl (x' := hq_s1M (su a) d) (rfl) ?_
        refine hq_last (j := a) hx hb hK hP hD hS 2 rfl (by omega) (by omega) d_M_scaled_85 (fun H locs hP hD hS => ?_)
        have hP : va_P D hq_cl ([hq_o8 h (nI n) kd ru ya (nI sz) ta la (nI rg) (nI so) (hq_z bg) (nI nc) lfa rta lb wo (nI ft) fha fva fla (nI sp) (nI tc) tha tva wa sa ca va tt ld pt pw (nI rc) ra wn, hq_al wa (G 1) 96 wt, hq_al sa (G 1) 96 (vp_updL su a (hq_s1M (su a) d)), hq_al ca (G 1) 96 sc] ++ Z) H := hP
        have hD : va_D A ([hq_o8 h (nI n) kd ru ya (nI sz) ta la (nI rg) (nI so) (hq_z bg) (nI nc) lfa rta lb wo (nI ft) fha fva fla (nI sp) (nI tc) tha tva wa sa ca va tt ld pt pw (nI rc) ra wn, hq_al wa (G 1) 96 wt, hq_al sa (G 1) 96 (vp_updL su a (hq_s1M (su a) d)), hq_al ca (G 1) 96 sc] ++ Z) := hD
        refine lv_lconst (v := 1) hx hb d_M_scaled_86 (by decide) ?_
        refine lv_aload_n hx hb d_M_scaled_87 rfl (lv_at hl 1 rfl) ?_
        refine va_get (D := D) (ci := 8) (v := .ref sa) (C := R_M) (T := F_M) (N := 34) hx hb hts uw_M hown hK hP 0 rfl rfl 24 (by decide) (hts _ fl_M_44) (fun _ h9 => h9) rfl d_M_scaled_88 ?_
        refine lv_iload_n hx hb d_M_scaled_91 rfl (lv_at hl 2 rfl) ?_
        refine hq_lald (j := a) hx hb hK hP 2 rfl (by omega) (by omega) d_M_scaled_92 ?_
        refine hq_topl (x' := hq_s1M (su a) d) (pk_uLs) ?_
        have hPc : va_P D hq_cl ([] ++ ([hq_o8 h (nI n) kd ru ya (nI sz) ta la (nI rg) (nI so) (hq_z bg) (nI nc) lfa rta lb wo (nI ft) fha fva fla (nI sp) (nI tc) tha tva wa sa ca va tt ld pt pw (nI rc) ra wn, hq_al wa (G 1) 96 wt, hq_al sa (G 1) 96 (vp_updL su a (hq_s1M (su a) d)), hq_al ca (G 1) 96 sc] ++ Z)) H := hP
        have hDc : va_D A ([] ++ ([hq_o8 h (nI n) kd ru ya (nI sz) ta la (nI rg) (nI so) (hq_z bg) (nI nc) lfa rta lb wo (nI ft) fha fva fla (nI sp) (nI tc) tha tva wa sa ca va tt ld pt pw (nI rc) ra wn, hq_al wa (G 1) 96 wt, hq_al sa (G 1) 96 (vp_updL su a (hq_s1M (su a) d)), hq_al ca (G 1) 96 sc] ++ Z)) := hD
        refine hq_lF (hq_rS (As := [.long (hq_s1M (su a) d)]) (rest := [.long 1]) hx hb hml hown hts (c_M_root l D G A ([hq_o8 h (nI n) kd ru ya (nI sz) ta la (nI rg) (nI so) (hq_z bg) (nI nc) lfa rta lb wo (nI ft) fha fva fla (nI sp) (nI tc) tha tva wa sa ca va tt ld pt pw (nI rc) ra wn, hq_al wa (G 1) 96 wt, hq_al sa (G 1) 96 (vp_updL su a (hq_s1M (su a) d)), hq_al ca (G 1) 96 sc] ++ Z) (hq_s1M (su a) d) ((hq_s1M_in hs0 hs1 hd0 hd1).1) ((hq_s1M_in hs0 hs1 hd0 hd1).2)) yy_M_root lk_M_190 hA hK hN hS hPc hDc rfl hl.1 rfl (Nat.le_of_ble_eq_true rfl) d_M_scaled_93 ⟨by decide, by decide⟩ ⟨by decide, by decide⟩) hS (fun H locs hP hD hS => ?_)
        have hP : va_P D hq_cl ([hq_o8 h (nI n) kd ru ya (nI sz) ta la (nI rg) (nI so) (hq_z bg) (nI nc) lfa rta lb wo (nI ft) fha fva fla (nI sp) (nI tc) tha tva wa sa ca va tt ld pt pw (nI rc) ra wn, hq_al wa (G 1) 96 wt, hq_al sa (G 1) 96 (vp_updL su a (hq_s1M (su a) d)), hq_al ca (G 1) 96 sc] ++ Z) H := hP
        have hD : va_D A ([hq_o8 h (nI n) kd ru ya (nI sz) ta la (nI rg) (nI so) (hq_z bg) (nI nc) lfa rta lb wo (nI ft) fha fva fla (nI sp) (nI tc) tha tva wa sa ca va tt ld pt pw (nI rc) ra wn, hq_al wa (G 1) 96 wt, hq_al sa (G 1) 96 (vp_updL su a (hq_s1M (su a) d)), hq_al ca (G 1) 96 sc] ++ Z) := hD
        refine lv_ladd hx hb d_M_scaled_96 ?_
        refine lv_aload_n hx hb d_M_scaled_97 rfl (lv_at hl 1 rfl) ?_
        refine va_get (D := D) (ci := 8) (v := .ref ca) (C := R_M) (T := F_M) (N := 34) hx hb hts uw_M hown hK hP 0 rfl rfl 25 (by decide) (hts _ fl_M_47) (fun _ h9 => h9) rfl d_M_scaled_98 ?_
        refine lv_iload_n hx hb d_M_scaled_101 rfl (lv_at hl 2 rfl) ?_
        refine hq_lald (j := a) hx hb hK hP 3 rfl (by omega) (by omega) d_M_scaled_102 ?_
        refine hq_topl (x' := hq_m0c (sc a) x) (by rw [hq_m0c, if_pos c23]) ?_
        refine lv_lmul hx hb d_M_scaled_103 ?_
        refine lv_lstore (nL := 10) (lv' := [(8, .long ((1 + (hq_root (hq_s1M (su a) d))) * (hq_m0c (sc a) x))), (6, .long (hq_mM x)), (0, .ref h), (1, .int (nI a)), (2, .long x), (4, .long d)]) hx hb d_M_scaled_104 hl (by decide) rfl (fun ls hl => ?_)
        refine lv_aload_n hx hb d_M_scaled_106 rfl (lv_at hl 2 rfl) ?_
        refine va_get (D := D) (ci := 8) (v := .ref wa) (C := R_M) (T := F_M) (N := 34) hx hb hts uw_M hown hK hP 0 rfl rfl 23 (by decide) (hts _ fl_M_40) (fun _ h9 => h9) rfl d_M_scaled_107 ?_
        refine lv_iload_n hx hb d_M_scaled_110 rfl (lv_at hl 3 rfl) ?_
        refine lv_aload_n hx hb d_M_scaled_111 rfl (lv_at hl 2 rfl) ?_
        refine va_get (D := D) (ci := 8) (v := .ref wa) (C := R_M) (T := F_M) (N := 34) hx hb hts uw_M hown hK hP 0 rfl rfl 23 (by decide) (hts _ fl_M_40) (fun _ h9 => h9) rfl d_M_scaled_112 ?_
        refine lv_iload_n hx hb d_M_scaled_115 rfl (lv_at hl 3 rfl) ?_
        refine hq_lald (j := a) hx hb hK hP 1 rfl (by omega) (by omega) d_M_scaled_116 ?_
        refine hq_topl (x' := hq_m0w1 (wt a) (sc a) x) (by rw [hq_m0w1, if_pos c23]) ?_
        refine lv_ldc2 (v := 500000) hx hb hown (hts _ kl_M_194) d_M_scaled_117 ?_
        refine lv_lload hx hb d_M_scaled_120 (lv_at hl 5 rfl) ?_
        refine lv_lmul hx hb d_M_scaled_122 ?_
        refine lv_lload hx hb d_M_scaled_123 (lv_at hl 0 rfl) ?_
        refine lv_ldiv hx hb d_M_scaled_125 (hq_den_ne (hq_root_in2 (hq_s1M_in hs0 hs1 hd0 hd1).2).1 (hq_root_in2 (hq_s1M_in hs0 hs1 hd0 hd1).2).2 ((hq_m0c_in hx0 hx1 hc0 hc1).2.2 c59) (hq_m0c_in hx0 hx1 hc0 hc1).2.1) ?_
        refine lv_lsub hx hb d_M_scaled_126 ?_
        refine lv_ldc2 (v := 100000000) hx hb hown (hts _ kl_M_196) d_M_scaled_127 ?_
        have hPc : va_P D hq_cl ([] ++ ([hq_o8 h (nI n) kd ru ya (nI sz) ta la (nI rg) (nI so) (hq_z bg) (nI nc) lfa rta lb wo (nI ft) fha fva fla (nI sp) (nI tc) tha tva wa sa ca va tt ld pt pw (nI rc) ra wn, hq_al wa (G 1) 96 wt, hq_al sa (G 1) 96 (vp_updL su a (hq_s1M (su a) d)), hq_al ca (G 1) 96 sc] ++ Z)) H := hP
        have hDc : va_D A ([] ++ ([hq_o8 h (nI n) kd ru ya (nI sz) ta la (nI rg) (nI so) (hq_z bg) (nI nc) lfa rta lb wo (nI ft) fha fva fla (nI sp) (nI tc) tha tva wa sa ca va tt ld pt pw (nI rc) ra wn, hq_al wa (G 1) 96 wt, hq_al sa (G 1) 96 (vp_updL su a (hq_s1M (su a) d)), hq_al ca (G 1) 96 sc] ++ Z)) := hD
        refine hq_lF (hq_rS (As := [.long ((hq_m0w1 (wt a) (sc a) x) - ((500000 * d) / ((1 + (hq_root (hq_s1M (su a) d))) * (hq_m0c (sc a) x)))), .long 100000000]) (rest := [.int (nI a), .ref wa]) hx hb hml hown hts (c_M_clip l D G A ([hq_o8 h (nI n) kd ru ya (nI sz) ta la (nI rg) (nI so) (hq_z bg) (nI nc) lfa rta lb wo (nI ft) fha fva fla (nI sp) (nI tc) tha tva wa sa ca va tt ld pt pw (nI rc) ra wn, hq_al wa (G 1) 96 wt, hq_al sa (G 1) 96 (vp_updL su a (hq_s1M (su a) d)), hq_al ca (G 1) 96 sc] ++ Z) ((hq_m0w1 (wt a) (sc a) x) - ((500000 * d) / ((1 + (hq_root (hq_s1M (su a) d))) * (hq_m0c (sc a) x)))) 100000000) yy_M_clip lk_M_132 hA hK hN hS hPc hDc rfl hl.1 rfl (Nat.le_of_ble_eq_true rfl) d_M_scaled_130 ⟨by decide, by decide⟩ ⟨by decide, by decide⟩) hS (fun H locs hP hD hS => ?_)
        have hP : va_P D hq_cl ([hq_o8 h (nI n) kd ru ya (nI sz) ta la (nI rg) (nI so) (hq_z bg) (nI nc) lfa rta lb wo (nI ft) fha fva fla (nI sp) (nI tc) tha tva wa sa ca va tt ld pt pw (nI rc) ra wn, hq_al wa (G 1) 96 wt, hq_al sa (G 1) 96 (vp_updL su a (hq_s1M (su a) d)), hq_al ca (G 1) 96 sc] ++ Z) H := hP
        have hD : va_D A ([hq_o8 h (nI n) kd ru ya (nI sz) ta la (nI rg) (nI so) (hq_z bg) (nI nc) lfa rta lb wo (nI ft) fha fva fla (nI sp) (nI tc) tha tva wa sa ca va tt ld pt pw (nI rc) ra wn, hq_al wa (G 1) 96 wt, hq_al sa (G 1) 96 (vp_updL su a (hq_s1M (su a) d)), hq_al ca (G 1) 96 sc] ++ Z) := hD
        refine hq_topl (x' := hq_m0w (wt a) (su a) (sc a) x d) (rfl) ?_
        refine hq_last (j := a) hx hb hK hP hD hS 1 rfl (by omega) (by omega) d_M_scaled_133 (fun H locs hP hD hS => ?_)
        have hP : va_P D hq_cl ([hq_o8 h (nI n) kd ru ya (nI sz) ta la (nI rg) (nI so) (hq_z bg) (nI nc) lfa rta lb wo (nI ft) fha fva fla (nI sp) (nI tc) tha tva wa sa ca va tt ld pt pw (nI rc) ra wn, hq_al wa (G 1) 96 (vp_updL wt a (hq_m0w (wt a) (su a) (sc a) x d)), hq_al sa (G 1) 96 (vp_updL su a (hq_s1M (su a) d)), hq_al ca (G 1) 96 sc] ++ Z) H := hP
        have hD : va_D A ([hq_o8 h (nI n) kd ru ya (nI sz) ta la (nI rg) (nI so) (hq_z bg) (nI nc) lfa rta lb wo (nI ft) fha fva fla (nI sp) (nI tc) tha tva wa sa ca va tt ld pt pw (nI rc) ra wn, hq_al wa (G 1) 96 (vp_updL wt a (hq_m0w (wt a) (su a) (sc a) x d)), hq_al sa (G 1) 96 (vp_updL su a (hq_s1M (su a) d)), hq_al ca (G 1) 96 sc] ++ Z) := hD
        have e9_0 : (if x = 0 then vp_updL wt a (hq_m0w1 (wt a) (sc a) x) else vp_updL wt a (hq_m0w (wt a) (su a) (sc a) x d)) = (vp_updL wt a (hq_m0w (wt a) (su a) (sc a) x d)) := by first | (rw [if_pos c59]; done) | (rw [if_neg c59]; done) | (rw [if_pos c59, hq_m0w1, if_pos c23, hq_updL_id]; done) | (rw [if_pos c59, hq_m0w1, if_neg c23]; done) | (rw [if_neg c59, hq_updL2]; done) | (rw [hq_m0c, if_pos c23, hq_updL_id]; done) | (rw [hq_m0c, if_neg c23]; done)
        have e9_1 : (if x = 0 then su else vp_updL su a (hq_s1M (su a) d)) = (vp_updL su a (hq_s1M (su a) d)) := by first | (rw [if_pos c59]; done) | (rw [if_neg c59]; done) | (rw [if_pos c59, hq_m0w1, if_pos c23, hq_updL_id]; done) | (rw [if_pos c59, hq_m0w1, if_neg c23]; done) | (rw [if_neg c59, hq_updL2]; done) | (rw [hq_m0c, if_pos c23, hq_updL_id]; done) | (rw [hq_m0c, if_neg c23]; done)
        have e9_2 : (vp_updL sc a (hq_m0c (sc a) x)) = sc := by first | (rw [if_pos c59]; done) | (rw [if_neg c59]; done) | (rw [if_pos c59, hq_m0w1, if_pos c23, hq_updL_id]; done) | (rw [if_pos c59, hq_m0w1, if_neg c23]; done) | (rw [if_neg c59, hq_updL2]; done) | (rw [hq_m0c, if_pos c23, hq_updL_id]; done) | (rw [hq_m0c, if_neg c23]; done)
        have hP : va_P D hq_cl ([hq_o8 h (nI n) kd ru ya (nI sz) ta la (nI rg) (nI so) (hq_z bg) (nI nc) lfa rta lb wo (nI ft) fha fva fla (nI sp) (nI tc) tha tva wa sa ca va tt ld pt pw (nI rc) ra wn, hq_al wa (G 1) 96 (if x = 0 then vp_updL wt a (hq_m0w1 (wt a) (sc a) x) else vp_updL wt a (hq_m0w (wt a) (su a) (sc a) x d)), hq_al sa (G 1) 96 (if x = 0 then su else vp_updL su a (hq_s1M (su a) d)), hq_al ca (G 1) 96 (vp_updL sc a (hq_m0c (sc a) x))] ++ Z) H := by rw [e9_0, e9_1, e9_2]; exact hP
        have hD : va_D A ([hq_o8 h (nI n) kd ru ya (nI sz) ta la (nI rg) (nI so) (hq_z bg) (nI nc) lfa rta lb wo (nI ft) fha fva fla (nI sp) (nI tc) tha tva wa sa ca va tt ld pt pw (nI rc) ra wn, hq_al wa (G 1) 96 (if x = 0 then vp_updL wt a (hq_m0w1 (wt a) (sc a) x) else vp_updL wt a (hq_m0w (wt a) (su a) (sc a) x d)), hq_al sa (G 1) 96 (if x = 0 then su else vp_updL su a (hq_s1M (su a) d)), hq_al ca (G 1) 96 (vp_updL sc a (hq_m0c (sc a) x))] ++ Z) := by rw [e9_0, e9_1, e9_2]; exact hD
        exact hret () H locs 134 ls d_M_scaled_134 (trivial) hP hD hS
    · -- 23 not taken
      have c23 : ¬ (hq_mM x) ≤ (sc a) := fun h => c23 ((lg_cmp_le (hq_mM x) (sc a)).mpr h)
      refine lv_aload_n hx hb d_M_scaled_26 rfl (lv_at hl 1 rfl) ?_
      refine va_get (D := D) (ci := 8) (v := .ref wa) (C := R_M) (T := F_M) (N := 34) hx hb hts uw_M hown hK hP 0 rfl rfl 23 (by decide) (hts _ fl_M_40) (fun _ h9 => h9) rfl d_M_scaled_27 ?_
      refine lv_iload_n hx hb d_M_scaled_30 rfl (lv_at hl 2 rfl) ?_
      refine lv_aload_n hx hb d_M_scaled_31 rfl (lv_at hl 1 rfl) ?_
      refine va_get (D := D) (ci := 8) (v := .ref wa) (C := R_M) (T := F_M) (N := 34) hx hb hts uw_M hown hK hP 0 rfl rfl 23 (by decide) (hts _ fl_M_40) (fun _ h9 => h9) rfl d_M_scaled_32 ?_
      refine lv_iload_n hx hb d_M_scaled_35 rfl (lv_at hl 2 rfl) ?_
      refine hq_lald (j := a) hx hb hK hP 1 rfl (by omega) (by omega) d_M_scaled_36 ?_
      refine lv_aload_n hx hb d_M_scaled_37 rfl (lv_at hl 1 rfl) ?_
      refine va_get (D := D) (ci := 8) (v := .ref ca) (C := R_M) (T := F_M) (N := 34) hx hb hts uw_M hown hK hP 0 rfl rfl 25 (by decide) (hts _ fl_M_47) (fun _ h9 => h9) rfl d_M_scaled_38 ?_
      refine lv_iload_n hx hb d_M_scaled_41 rfl (lv_at hl 2 rfl) ?_
      refine hq_lald (j := a) hx hb hK hP 3 rfl (by omega) (by omega) d_M_scaled_42 ?_
      refine lv_lmul hx hb d_M_scaled_43 ?_
      refine lv_lload hx hb d_M_scaled_44 (lv_at hl 0 rfl) ?_
      refine lv_ldiv hx hb d_M_scaled_46 (hq_mM_ne hx0 hx1 hc0 c23) ?_
      refine hq_last (j := a) hx hb hK hP hD hS 1 rfl (by omega) (by omega) d_M_scaled_47 (fun H locs hP hD hS => ?_)
      have hP : va_P D hq_cl ([hq_o8 h (nI n) kd ru ya (nI sz) ta la (nI rg) (nI so) (hq_z bg) (nI nc) lfa rta lb wo (nI ft) fha fva fla (nI sp) (nI tc) tha tva wa sa ca va tt ld pt pw (nI rc) ra wn, hq_al wa (G 1) 96 (vp_updL wt a (((wt a) * (sc a)) / (hq_mM x))), hq_al sa (G 1) 96 su, hq_al ca (G 1) 96 sc] ++ Z) H := hP
      have hD : va_D A ([hq_o8 h (nI n) kd ru ya (nI sz) ta la (nI rg) (nI so) (hq_z bg) (nI nc) lfa rta lb wo (nI ft) fha fva fla (nI sp) (nI tc) tha tva wa sa ca va tt ld pt pw (nI rc) ra wn, hq_al wa (G 1) 96 (vp_updL wt a (((wt a) * (sc a)) / (hq_mM x))), hq_al sa (G 1) 96 su, hq_al ca (G 1) 96 sc] ++ Z) := hD
      refine lv_aload_n hx hb d_M_scaled_48 rfl (lv_at hl 1 rfl) ?_
      refine va_get (D := D) (ci := 8) (v := .ref ca) (C := R_M) (T := F_M) (N := 34) hx hb hts uw_M hown hK hP 0 rfl rfl 25 (by decide) (hts _ fl_M_47) (fun _ h9 => h9) rfl d_M_scaled_49 ?_
      refine lv_iload_n hx hb d_M_scaled_52 rfl (lv_at hl 2 rfl) ?_
      refine lv_lload hx hb d_M_scaled_53 (lv_at hl 0 rfl) ?_
      refine hq_last (j := a) hx hb hK hP hD hS 3 rfl (by omega) (by omega) d_M_scaled_55 (fun H locs hP hD hS => ?_)
      have hP : va_P D hq_cl ([hq_o8 h (nI n) kd ru ya (nI sz) ta la (nI rg) (nI so) (hq_z bg) (nI nc) lfa rta lb wo (nI ft) fha fva fla (nI sp) (nI tc) tha tva wa sa ca va tt ld pt pw (nI rc) ra wn, hq_al wa (G 1) 96 (vp_updL wt a (((wt a) * (sc a)) / (hq_mM x))), hq_al sa (G 1) 96 su, hq_al ca (G 1) 96 (vp_updL sc a (hq_mM x))] ++ Z) H := hP
      have hD : va_D A ([hq_o8 h (nI n) kd ru ya (nI sz) ta la (nI rg) (nI so) (hq_z bg) (nI nc) lfa rta lb wo (nI ft) fha fva fla (nI sp) (nI tc) tha tva wa sa ca va tt ld pt pw (nI rc) ra wn, hq_al wa (G 1) 96 (vp_updL wt a (((wt a) * (sc a)) / (hq_mM x))), hq_al sa (G 1) 96 su, hq_al ca (G 1) 96 (vp_updL sc a (hq_mM x))] ++ Z) := hD
      refine lv_lload_n hx hb d_M_scaled_56 rfl (lv_at hl 3 rfl) ?_
      refine lv_lconst (v := 0) hx hb d_M_scaled_57 (by decide) ?_
      refine W.lcmp hx hb d_M_scaled_58 ?_
      refine lv_if_eq (tgt := 134) hx hb d_M_scaled_59 rfl (fun c59 => ?_) (fun c59 => ?_)
      · -- 59 taken
        have c59 : x = 0 := (lg_cmp_eq x 0).mp c59
        have e9_0 : (if x = 0 then vp_updL wt a (hq_m0w1 (wt a) (sc a) x) else vp_updL wt a (hq_m0w (wt a) (su a) (sc a) x d)) = (vp_updL wt a (((wt a) * (sc a)) / (hq_mM x))) := by first | (rw [if_pos c59]; done) | (rw [if_neg c59]; done) | (rw [if_pos c59, hq_m0w1, if_pos c23, hq_updL_id]; done) | (rw [if_pos c59, hq_m0w1, if_neg c23]; done) | (rw [if_neg c59, hq_updL2]; done) | (rw [hq_m0c, if_pos c23, hq_updL_id]; done) | (rw [hq_m0c, if_neg c23]; done)
        have e9_1 : (if x = 0 then su else vp_updL su a (hq_s1M (su a) d)) = su := by first | (rw [if_pos c59]; done) | (rw [if_neg c59]; done) | (rw [if_pos c59, hq_m0w1, if_pos c23, hq_updL_id]; done) | (rw [if_pos c59, hq_m0w1, if_neg c23]; done) | (rw [if_neg c59, hq_updL2]; done) | (rw [hq_m0c, if_pos c23, hq_updL_id]; done) | (rw [hq_m0c, if_neg c23]; done)
        have e9_2 : (vp_updL sc a (hq_m0c (sc a) x)) = (vp_updL sc a (hq_mM x)) := by first | (rw [if_pos c59]; done) | (rw [if_neg c59]; done) | (rw [if_pos c59, hq_m0w1, if_pos c23, hq_updL_id]; done) | (rw [if_pos c59, hq_m0w1, if_neg c23]; done) | (rw [if_neg c59, hq_updL2]; done) | (rw [hq_m0c, if_pos c23, hq_updL_id]; done) | (rw [hq_m0c, if_neg c23]; done)
        have hP : va_P D hq_cl ([hq_o8 h (nI n) kd ru ya (nI sz) ta la (nI rg) (nI so) (hq_z bg) (nI nc) lfa rta lb wo (nI ft) fha fva fla (nI sp) (nI tc) tha tva wa sa ca va tt ld pt pw (nI rc) ra wn, hq_al wa (G 1) 96 (if x = 0 then vp_updL wt a (hq_m0w1 (wt a) (sc a) x) else vp_updL wt a (hq_m0w (wt a) (su a) (sc a) x d)), hq_al sa (G 1) 96 (if x = 0 then su else vp_updL su a (hq_s1M (su a) d)), hq_al ca (G 1) 96 (vp_updL sc a (hq_m0c (sc a) x))] ++ Z) H := by rw [e9_0, e9_1, e9_2]; exact hP
        have hD : va_D A ([hq_o8 h (nI n) kd ru ya (nI sz) ta la (nI rg) (nI so) (hq_z bg) (nI nc) lfa rta lb wo (nI ft) fha fva fla (nI sp) (nI tc) tha tva wa sa ca va tt ld pt pw (nI rc) ra wn, hq_al wa (G 1) 96 (if x = 0 then vp_updL wt a (hq_m0w1 (wt a) (sc a) x) else vp_updL wt a (hq_m0w (wt a) (su a) (sc a) x d)), hq_al sa (G 1) 96 (if x = 0 then su else vp_updL su a (hq_s1M (su a) d)), hq_al ca (G 1) 96 (vp_updL sc a (hq_m0c (sc a) x))] ++ Z) := by rw [e9_0, e9_1, e9_2]; exact hD
        exact hret () H locs 134 ls d_M_scaled_134 (trivial) hP hD hS
      · -- 59 not taken
        have c59 : ¬ x = 0 := fun h => c59 ((lg_cmp_eq x 0).mpr h)
        refine lv_aload_n hx hb d_M_scaled_62 rfl (lv_at hl 1 rfl) ?_
        refine va_get (D := D) (ci := 8) (v := .ref sa) (C := R_M) (T := F_M) (N := 34) hx hb hts uw_M hown hK hP 0 rfl rfl 24 (by decide) (hts _ fl_M_44) (fun _ h9 => h9) rfl d_M_scaled_63 ?_
        refine lv_iload_n hx hb d_M_scaled_66 rfl (lv_at hl 2 rfl) ?_
        refine lv_aload_n hx hb d_M_scaled_67 rfl (lv_at hl 1 rfl) ?_
        refine va_get (D := D) (ci := 8) (v := .ref sa) (C := R_M) (T := F_M) (N := 34) hx hb hts uw_M hown hK hP 0 rfl rfl 24 (by decide) (hts _ fl_M_44) (fun _ h9 => h9) rfl d_M_scaled_68 ?_
        refine lv_iload_n hx hb d_M_scaled_71 rfl (lv_at hl 2 rfl) ?_
        refine hq_lald (j := a) hx hb hK hP 2 rfl (by omega) (by omega) d_M_scaled_72 ?_
        refine lv_lload hx hb d_M_scaled_73 (lv_at hl 4 rfl) ?_
        refine lv_lload hx hb d_M_scaled_75 (lv_at hl 4 rfl) ?_
        refine lv_lmul hx hb d_M_scaled_77 ?_
        refine lv_ladd hx hb d_M_scaled_78 ?_
        refine lv_ldc2 (v := 10000000000000000) hx hb hown (hts _ kl_M_188) d_M_scaled_79 ?_
        have hPc : va_P D hq_cl ([] ++ ([hq_o8 h (nI n) kd ru ya (nI sz) ta la (nI rg) (nI so) (hq_z bg) (nI nc) lfa rta lb wo (nI ft) fha fva fla (nI sp) (nI tc) tha tva wa sa ca va tt ld pt pw (nI rc) ra wn, hq_al wa (G 1) 96 (vp_updL wt a (((wt a) * (sc a)) / (hq_mM x))), hq_al sa (G 1) 96 su, hq_al ca (G 1) 96 (vp_updL sc a (hq_mM x))] ++ Z)) H := hP
        have hDc : va_D A ([] ++ ([hq_o8 h (nI n) kd ru ya (nI sz) ta la (nI rg) (nI so) (hq_z bg) (nI nc) lfa rta lb wo (nI ft) fha fva fla (nI sp) (nI tc) tha tva wa sa ca va tt ld pt pw (nI rc) ra wn, hq_al wa (G 1) 96 (vp_updL wt a (((wt a) * (sc a)) / (hq_mM x))), hq_al sa (G 1) 96 su, hq_al ca (G 1) 96 (vp_updL sc a (hq_mM x))] ++ Z)) := hD
        refine hq_lF (hq_rS (As := [.long ((su a) + (d * d)), .long 10000000000000000]) (rest := [.int (nI a), .ref sa]) hx hb hml hown hts (c_M_clip l D G A ([hq_o8 h (nI n) kd ru ya (nI sz) ta la (nI rg) (nI so) (hq_z bg) (nI nc) lfa rta lb wo (nI ft) fha fva fla (nI sp) (nI tc) tha tva wa sa ca va tt ld pt pw (nI rc) ra wn, hq_al wa (G 1) 96 (vp_updL wt a (((wt a) * (sc a)) / (hq_mM x))), hq_al sa (G 1) 96 su, hq_al ca (G 1) 96 (vp_updL sc a (hq_mM x))] ++ Z) ((su a) + (d * d)) 10000000000000000) yy_M_clip lk_M_132 hA hK hN hS hPc hDc rfl hl.1 rfl (Nat.le_of_ble_eq_true rfl) d_M_scaled_82 ⟨by decide, by decide⟩ ⟨by decide, by decide⟩) hS (fun H locs hP hD hS => ?_)
        have hP : va_P D hq_cl ([hq_o8 h (nI n) kd ru ya (nI sz) ta la (nI rg) (nI so) (hq_z bg) (nI nc) lfa rta lb wo (nI ft) fha fva fla (nI sp) (nI tc) tha tva wa sa ca va tt ld pt pw (nI rc) ra wn, hq_al wa (G 1) 96 (vp_updL wt a (((wt a) * (sc a)) / (hq_mM x))), hq_al sa (G 1) 96 su, hq_al ca (G 1) 96 (vp_updL sc a (hq_mM x))] ++ Z) H := hP
        have hD : va_D A ([hq_o8 h (nI n) kd ru ya (nI sz) ta la (nI rg) (nI so) (hq_z bg) (nI nc) lfa rta lb wo (nI ft) fha fva fla (nI sp) (nI tc) tha tva wa sa ca va tt ld pt pw (nI rc) ra wn, hq_al wa (G 1) 96 (vp_updL wt a (((wt a) * (sc a)) / (hq_mM x))), hq_al sa (G 1) 96 su, hq_al ca (G 1) 96 (vp_updL sc a (hq_mM x))] ++ Z) := hD
        refine hq_topl (x' := hq_s1M (su a) d) (rfl) ?_
        refine hq_last (j := a) hx hb hK hP hD hS 2 rfl (by omega) (by omega) d_M_scaled_85 (fun H locs hP hD hS => ?_)
        have hP : va_P D hq_cl ([hq_o8 h (nI n) kd ru ya (nI sz) ta la (nI rg) (nI so) (hq_z bg) (nI nc) lfa rta lb wo (nI ft) fha fva fla (nI sp) (nI tc) tha tva wa sa ca va tt ld pt pw (nI rc) ra wn, hq_al wa (G 1) 96 (vp_updL wt a (((wt a) * (sc a)) / (hq_mM x))), hq_al sa (G 1) 96 (vp_updL su a (hq_s1M (su a) d)), hq_al ca (G 1) 96 (vp_updL sc a (hq_mM x))] ++ Z) H := hP
        have hD : va_D A ([hq_o8 h (nI n) kd ru ya (nI sz) ta la (nI rg) (nI so) (hq_z bg) (nI nc) lfa rta lb wo (nI ft) fha fva fla (nI sp) (nI tc) tha tva wa sa ca va tt ld pt pw (nI rc) ra wn, hq_al wa (G 1) 96 (vp_updL wt a (((wt a) * (sc a)) / (hq_mM x))), hq_al sa (G 1) 96 (vp_updL su a (hq_s1M (su a) d)), hq_al ca (G 1) 96 (vp_updL sc a (hq_mM x))] ++ Z) := hD
        refine lv_lconst (v := 1) hx hb d_M_scaled_86 (by decide) ?_
        refine lv_aload_n hx hb d_M_scaled_87 rfl (lv_at hl 1 rfl) ?_
        refine va_get (D := D) (ci := 8) (v := .ref sa) (C := R_M) (T := F_M) (N := 34) hx hb hts uw_M hown hK hP 0 rfl rfl 24 (by decide) (hts _ fl_M_44) (fun _ h9 => h9) rfl d_M_scaled_88 ?_
        refine lv_iload_n hx hb d_M_scaled_91 rfl (lv_at hl 2 rfl) ?_
        refine hq_lald (j := a) hx hb hK hP 2 rfl (by omega) (by omega) d_M_scaled_92 ?_
        refine hq_topl (x' := hq_s1M (su a) d) (pk_uLs) ?_
        have hPc : va_P D hq_cl ([] ++ ([hq_o8 h (nI n) kd ru ya (nI sz) ta la (nI rg) (nI so) (hq_z bg) (nI nc) lfa rta lb wo (nI ft) fha fva fla (nI sp) (nI tc) tha tva wa sa ca va tt ld pt pw (nI rc) ra wn, hq_al wa (G 1) 96 (vp_updL wt a (((wt a) * (sc a)) / (hq_mM x))), hq_al sa (G 1) 96 (vp_updL su a (hq_s1M (su a) d)), hq_al ca (G 1) 96 (vp_updL sc a (hq_mM x))] ++ Z)) H := hP
        have hDc : va_D A ([] ++ ([hq_o8 h (nI n) kd ru ya (nI sz) ta la (nI rg) (nI so) (hq_z bg) (nI nc) lfa rta lb wo (nI ft) fha fva fla (nI sp) (nI tc) tha tva wa sa ca va tt ld pt pw (nI rc) ra wn, hq_al wa (G 1) 96 (vp_updL wt a (((wt a) * (sc a)) / (hq_mM x))), hq_al sa (G 1) 96 (vp_updL su a (hq_s1M (su a) d)), hq_al ca (G 1) 96 (vp_updL sc a (hq_mM x))] ++ Z)) := hD
        refine hq_lF (hq_rS (As := [.long (hq_s1M (su a) d)]) (rest := [.long 1]) hx hb hml hown hts (c_M_root l D G A ([hq_o8 h (nI n) kd ru ya (nI sz) ta la (nI rg) (nI so) (hq_z bg) (nI nc) lfa rta lb wo (nI ft) fha fva fla (nI sp) (nI tc) tha tva wa sa ca va tt ld pt pw (nI rc) ra wn, hq_al wa (G 1) 96 (vp_updL wt a (((wt a) * (sc a)) / (hq_mM x))), hq_al sa (G 1) 96 (vp_updL su a (hq_s1M (su a) d)), hq_al ca (G 1) 96 (vp_updL sc a (hq_mM x))] ++ Z) (hq_s1M (su a) d) ((hq_s1M_in hs0 hs1 hd0 hd1).1) ((hq_s1M_in hs0 hs1 hd0 hd1).2)) yy_M_root lk_M_190 hA hK hN hS hPc hDc rfl hl.1 rfl (Nat.le_of_ble_eq_true rfl) d_M_scaled_93 ⟨by decide, by decide⟩ ⟨by decide, by decide⟩) hS (fun H locs hP hD hS => ?_)
        have hP : va_P D hq_cl ([hq_o8 h (nI n) kd ru ya (nI sz) ta la (nI rg) (nI so) (hq_z bg) (nI nc) lfa rta lb wo (nI ft) fha fva fla (nI sp) (nI tc) tha tva wa sa ca va tt ld pt pw (nI rc) ra wn, hq_al wa (G 1) 96 (vp_updL wt a (((wt a) * (sc a)) / (hq_mM x))), hq_al sa (G 1) 96 (vp_updL su a (hq_s1M (su a) d)), hq_al ca (G 1) 96 (vp_updL sc a (hq_mM x))] ++ Z) H := hP
        have hD : va_D A ([hq_o8 h (nI n) kd ru ya (nI sz) ta la (nI rg) (nI so) (hq_z bg) (nI nc) lfa rta lb wo (nI ft) fha fva fla (nI sp) (nI tc) tha tva wa sa ca va tt ld pt pw (nI rc) ra wn, hq_al wa (G 1) 96 (vp_updL wt a (((wt a) * (sc a)) / (hq_mM x))), hq_al sa (G 1) 96 (vp_updL su a (hq_s1M (su a) d)), hq_al ca (G 1) 96 (vp_updL sc a (hq_mM x))] ++ Z) := hD
        refine lv_ladd hx hb d_M_scaled_96 ?_
        refine lv_aload_n hx hb d_M_scaled_97 rfl (lv_at hl 1 rfl) ?_
        refine va_get (D := D) (ci := 8) (v := .ref ca) (C := R_M) (T := F_M) (N := 34) hx hb hts uw_M hown hK hP 0 rfl rfl 25 (by decide) (hts _ fl_M_47) (fun _ h9 => h9) rfl d_M_scaled_98 ?_
        refine lv_iload_n hx hb d_M_scaled_101 rfl (lv_at hl 2 rfl) ?_
        refine hq_lald (j := a) hx hb hK hP 3 rfl (by omega) (by omega) d_M_scaled_102 ?_
        refine hq_topl (x' := hq_mM x) (pk_uLs) ?_
        refine hq_topl (x' := hq_m0c (sc a) x) (by rw [hq_m0c, if_neg c23]) ?_
        refine lv_lmul hx hb d_M_scaled_103 ?_
        refine lv_lstore (nL := 10) (lv' := [(8, .long ((1 + (hq_root (hq_s1M (su a) d))) * (hq_m0c (sc a) x))), (6, .long (hq_mM x)), (0, .ref h), (1, .int (nI a)), (2, .long x), (4, .long d)]) hx hb d_M_scaled_104 hl (by decide) rfl (fun ls hl => ?_)
        refine lv_aload_n hx hb d_M_scaled_106 rfl (lv_at hl 2 rfl) ?_
        refine va_get (D := D) (ci := 8) (v := .ref wa) (C := R_M) (T := F_M) (N := 34) hx hb hts uw_M hown hK hP 0 rfl rfl 23 (by decide) (hts _ fl_M_40) (fun _ h9 => h9) rfl d_M_scaled_107 ?_
        refine lv_iload_n hx hb d_M_scaled_110 rfl (lv_at hl 3 rfl) ?_
        refine lv_aload_n hx hb d_M_scaled_111 rfl (lv_at hl 2 rfl) ?_
        refine va_get (D := D) (ci := 8) (v := .ref wa) (C := R_M) (T := F_M) (N := 34) hx hb hts uw_M hown hK hP 0 rfl rfl 23 (by decide) (hts _ fl_M_40) (fun _ h9 => h9) rfl d_M_scaled_112 ?_
        refine lv_iload_n hx hb d_M_scaled_115 rfl (lv_at hl 3 rfl) ?_
        refine hq_lald (j := a) hx hb hK hP 1 rfl (by omega) (by omega) d_M_scaled_116 ?_
        refine hq_topl (x' := ((wt a) * (sc a)) / (hq_mM x)) (pk_uLs) ?_
        refine hq_topl (x' := hq_m0w1 (wt a) (sc a) x) (by rw [hq_m0w1, if_neg c23]) ?_
        refine lv_ldc2 (v := 500000) hx hb hown (hts _ kl_M_194) d_M_scaled_117 ?_
        refine lv_lload hx hb d_M_scaled_120 (lv_at hl 5 rfl) ?_
        refine lv_lmul hx hb d_M_scaled_122 ?_
        refine lv_lload hx hb d_M_scaled_123 (lv_at hl 0 rfl) ?_
        refine lv_ldiv hx hb d_M_scaled_125 (hq_den_ne (hq_root_in2 (hq_s1M_in hs0 hs1 hd0 hd1).2).1 (hq_root_in2 (hq_s1M_in hs0 hs1 hd0 hd1).2).2 ((hq_m0c_in hx0 hx1 hc0 hc1).2.2 c59) (hq_m0c_in hx0 hx1 hc0 hc1).2.1) ?_
        refine lv_lsub hx hb d_M_scaled_126 ?_
        refine lv_ldc2 (v := 100000000) hx hb hown (hts _ kl_M_196) d_M_scaled_127 ?_
        have hPc : va_P D hq_cl ([] ++ ([hq_o8 h (nI n) kd ru ya (nI sz) ta la (nI rg) (nI so) (hq_z bg) (nI nc) lfa rta lb wo (nI ft) fha fva fla (nI sp) (nI tc) tha tva wa sa ca va tt ld pt pw (nI rc) ra wn, hq_al wa (G 1) 96 (vp_updL wt a (((wt a) * (sc a)) / (hq_mM x))), hq_al sa (G 1) 96 (vp_updL su a (hq_s1M (su a) d)), hq_al ca (G 1) 96 (vp_updL sc a (hq_mM x))] ++ Z)) H := hP
        have hDc : va_D A ([] ++ ([hq_o8 h (nI n) kd ru ya (nI sz) ta la (nI rg) (nI so) (hq_z bg) (nI nc) lfa rta lb wo (nI ft) fha fva fla (nI sp) (nI tc) tha tva wa sa ca va tt ld pt pw (nI rc) ra wn, hq_al wa (G 1) 96 (vp_updL wt a (((wt a) * (sc a)) / (hq_mM x))), hq_al sa (G 1) 96 (vp_updL su a (hq_s1M (su a) d)), hq_al ca (G 1) 96 (vp_updL sc a (hq_mM x))] ++ Z)) := hD
        refine hq_lF (hq_rS (As := [.long ((hq_m0w1 (wt a) (sc a) x) - ((500000 * d) / ((1 + (hq_root (hq_s1M (su a) d))) * (hq_m0c (sc a) x)))), .long 100000000]) (rest := [.int (nI a), .ref wa]) hx hb hml hown hts (c_M_clip l D G A ([hq_o8 h (nI n) kd ru ya (nI sz) ta la (nI rg) (nI so) (hq_z bg) (nI nc) lfa rta lb wo (nI ft) fha fva fla (nI sp) (nI tc) tha tva wa sa ca va tt ld pt pw (nI rc) ra wn, hq_al wa (G 1) 96 (vp_updL wt a (((wt a) * (sc a)) / (hq_mM x))), hq_al sa (G 1) 96 (vp_updL su a (hq_s1M (su a) d)), hq_al ca (G 1) 96 (vp_updL sc a (hq_mM x))] ++ Z) ((hq_m0w1 (wt a) (sc a) x) - ((500000 * d) / ((1 + (hq_root (hq_s1M (su a) d))) * (hq_m0c (sc a) x)))) 100000000) yy_M_clip lk_M_132 hA hK hN hS hPc hDc rfl hl.1 rfl (Nat.le_of_ble_eq_true rfl) d_M_scaled_130 ⟨by decide, by decide⟩ ⟨by decide, by decide⟩) hS (fun H locs hP hD hS => ?_)
        have hP : va_P D hq_cl ([hq_o8 h (nI n) kd ru ya (nI sz) ta la (nI rg) (nI so) (hq_z bg) (nI nc) lfa rta lb wo (nI ft) fha fva fla (nI sp) (nI tc) tha tva wa sa ca va tt ld pt pw (nI rc) ra wn, hq_al wa (G 1) 96 (vp_updL wt a (((wt a) * (sc a)) / (hq_mM x))), hq_al sa (G 1) 96 (vp_updL su a (hq_s1M (su a) d)), hq_al ca (G 1) 96 (vp_updL sc a (hq_mM x))] ++ Z) H := hP
        have hD : va_D A ([hq_o8 h (nI n) kd ru ya (nI sz) ta la (nI rg) (nI so) (hq_z bg) (nI nc) lfa rta lb wo (nI ft) fha fva fla (nI sp) (nI tc) tha tva wa sa ca va tt ld pt pw (nI rc) ra wn, hq_al wa (G 1) 96 (vp_updL wt a (((wt a) * (sc a)) / (hq_mM x))), hq_al sa (G 1) 96 (vp_updL su a (hq_s1M (su a) d)), hq_al ca (G 1) 96 (vp_updL sc a (hq_mM x))] ++ Z) := hD
        refine hq_topl (x' := hq_m0w (wt a) (su a) (sc a) x d) (rfl) ?_
        refine hq_last (j := a) hx hb hK hP hD hS 1 rfl (by omega) (by omega) d_M_scaled_133 (fun H locs hP hD hS => ?_)
        have hP : va_P D hq_cl ([hq_o8 h (nI n) kd ru ya (nI sz) ta la (nI rg) (nI so) (hq_z bg) (nI nc) lfa rta lb wo (nI ft) fha fva fla (nI sp) (nI tc) tha tva wa sa ca va tt ld pt pw (nI rc) ra wn, hq_al wa (G 1) 96 (vp_updL (vp_updL wt a (((wt a) * (sc a)) / (hq_mM x))) a (hq_m0w (wt a) (su a) (sc a) x d)), hq_al sa (G 1) 96 (vp_updL su a (hq_s1M (su a) d)), hq_al ca (G 1) 96 (vp_updL sc a (hq_mM x))] ++ Z) H := hP
        have hD : va_D A ([hq_o8 h (nI n) kd ru ya (nI sz) ta la (nI rg) (nI so) (hq_z bg) (nI nc) lfa rta lb wo (nI ft) fha fva fla (nI sp) (nI tc) tha tva wa sa ca va tt ld pt pw (nI rc) ra wn, hq_al wa (G 1) 96 (vp_updL (vp_updL wt a (((wt a) * (sc a)) / (hq_mM x))) a (hq_m0w (wt a) (su a) (sc a) x d)), hq_al sa (G 1) 96 (vp_updL su a (hq_s1M (su a) d)), hq_al ca (G 1) 96 (vp_updL sc a (hq_mM x))] ++ Z) := hD
        have e9_0 : (if x = 0 then vp_updL wt a (hq_m0w1 (wt a) (sc a) x) else vp_updL wt a (hq_m0w (wt a) (su a) (sc a) x d)) = (vp_updL (vp_updL wt a (((wt a) * (sc a)) / (hq_mM x))) a (hq_m0w (wt a) (su a) (sc a) x d)) := by first | (rw [if_pos c59]; done) | (rw [if_neg c59]; done) | (rw [if_pos c59, hq_m0w1, if_pos c23, hq_updL_id]; done) | (rw [if_pos c59, hq_m0w1, if_neg c23]; done) | (rw [if_neg c59, hq_updL2]; done) | (rw [hq_m0c, if_pos c23, hq_updL_id]; done) | (rw [hq_m0c, if_neg c23]; done)
        have e9_1 : (if x = 0 then su else vp_updL su a (hq_s1M (su a) d)) = (vp_updL su a (hq_s1M (su a) d)) := by first | (rw [if_pos c59]; done) | (rw [if_neg c59]; done) | (rw [if_pos c59, hq_m0w1, if_pos c23, hq_updL_id]; done) | (rw [if_pos c59, hq_m0w1, if_neg c23]; done) | (rw [if_neg c59, hq_updL2]; done) | (rw [hq_m0c, if_pos c23, hq_updL_id]; done) | (rw [hq_m0c, if_neg c23]; done)
        have e9_2 : (vp_updL sc a (hq_m0c (sc a) x)) = (vp_updL sc a (hq_mM x)) := by first | (rw [if_pos c59]; done) | (rw [if_neg c59]; done) | (rw [if_pos c59, hq_m0w1, if_pos c23, hq_updL_id]; done) | (rw [if_pos c59, hq_m0w1, if_neg c23]; done) | (rw [if_neg c59, hq_updL2]; done) | (rw [hq_m0c, if_pos c23, hq_updL_id]; done) | (rw [hq_m0c, if_neg c23]; done)
        have hP : va_P D hq_cl ([hq_o8 h (nI n) kd ru ya (nI sz) ta la (nI rg) (nI so) (hq_z bg) (nI nc) lfa rta lb wo (nI ft) fha fva fla (nI sp) (nI tc) tha tva wa sa ca va tt ld pt pw (nI rc) ra wn, hq_al wa (G 1) 96 (if x = 0 then vp_updL wt a (hq_m0w1 (wt a) (sc a) x) else vp_updL wt a (hq_m0w (wt a) (su a) (sc a) x d)), hq_al sa (G 1) 96 (if x = 0 then su else vp_updL su a (hq_s1M (su a) d)), hq_al ca (G 1) 96 (vp_updL sc a (hq_m0c (sc a) x))] ++ Z) H := by rw [e9_0, e9_1, e9_2]; exact hP
        have hD : va_D A ([hq_o8 h (nI n) kd ru ya (nI sz) ta la (nI rg) (nI so) (hq_z bg) (nI nc) lfa rta lb wo (nI ft) fha fva fla (nI sp) (nI tc) tha tva wa sa ca va tt ld pt pw (nI rc) ra wn, hq_al wa (G 1) 96 (if x = 0 then vp_updL wt a (hq_m0w1 (wt a) (sc a) x) else vp_updL wt a (hq_m0w (wt a) (su a) (sc a) x d)), hq_al sa (G 1) 96 (if x = 0 then su else vp_updL su a (hq_s1M (su a) d)), hq_al ca (G 1) 96 (vp_updL sc a (hq_m0c (sc a) x))] ++ Z) := by rw [e9_0, e9_1, e9_2]; exact hD
        exact hret () H locs 134 ls d_M_scaled_134 (trivial) hP hD hS
  refine lv_lload_n hx hb d_M_scaled_0 rfl (lv_at hl 2 rfl) ?_
  refine lv_lconst (v := 0) hx hb d_M_scaled_1 (by decide) ?_
  refine W.lcmp hx hb d_M_scaled_2 ?_
  refine lv_if_ge (tgt := 11) hx hb d_M_scaled_3 rfl (fun c3 => ?_) (fun c3 => ?_)
  · -- 3 taken
    have c3 : 0 ≤ x := (lg_cmp_ge x 0).mp c3
    refine lv_lload_n hx hb d_M_scaled_11 rfl (lv_at hl 2 rfl) ?_
    refine hq_topl (x' := hq_mM x) (by rw [hq_mM, if_pos c3]) ?_
    exact cut12 ls H locs (lv_sub hl [0, 1, 2, 3] rfl) hP hD hS
  · -- 3 not taken
    have c3 : ¬ 0 ≤ x := fun h => c3 ((lg_cmp_ge x 0).mpr h)
    refine lv_lload_n hx hb d_M_scaled_6 rfl (lv_at hl 2 rfl) ?_
    refine lv_lneg hx hb d_M_scaled_7 ?_
    refine hq_topl (x' := hq_mM x) (by rw [hq_mM, if_neg c3]) ?_
    refine lv_goto (tgt := 12) hx hb d_M_scaled_8 rfl ?_
    exact cut12 ls H locs (lv_sub hl [0, 1, 2, 3] rfl) hP hD hS
theorem d_M_followed_0 : decode b_M_followed 0 = .ok (.aload_n 0, 1) := by decide +kernel
theorem d_M_followed_1 : decode b_M_followed 1 = .ok (.getfield 44, 3) := by decide +kernel
theorem d_M_followed_4 : decode b_M_followed 4 = .ok (.iload_n 1, 1) := by decide +kernel
theorem d_M_followed_5 : decode b_M_followed 5 = .ok (.laload, 1) := by decide +kernel
theorem d_M_followed_6 : decode b_M_followed 6 = .ok (.invokestatic 190, 3) := by decide +kernel
theorem d_M_followed_9 : decode b_M_followed 9 = .ok (.lstore 4, 2) := by decide +kernel
theorem d_M_followed_11 : decode b_M_followed 11 = .ok (.aload_n 0, 1) := by decide +kernel
theorem d_M_followed_12 : decode b_M_followed 12 = .ok (.getfield 44, 3) := by decide +kernel
theorem d_M_followed_15 : decode b_M_followed 15 = .ok (.iload_n 1, 1) := by decide +kernel
theorem d_M_followed_16 : decode b_M_followed 16 = .ok (.aload_n 0, 1) := by decide +kernel
theorem d_M_followed_17 : decode b_M_followed 17 = .ok (.getfield 44, 3) := by decide +kernel
theorem d_M_followed_20 : decode b_M_followed 20 = .ok (.iload_n 1, 1) := by decide +kernel
theorem d_M_followed_21 : decode b_M_followed 21 = .ok (.laload, 1) := by decide +kernel
theorem d_M_followed_22 : decode b_M_followed 22 = .ok (.lload_n 2, 1) := by decide +kernel
theorem d_M_followed_23 : decode b_M_followed 23 = .ok (.lload_n 2, 1) := by decide +kernel
theorem d_M_followed_24 : decode b_M_followed 24 = .ok (.lmul, 1) := by decide +kernel
theorem d_M_followed_25 : decode b_M_followed 25 = .ok (.ladd, 1) := by decide +kernel
theorem d_M_followed_26 : decode b_M_followed 26 = .ok (.ldc2_w 188, 3) := by decide +kernel
theorem d_M_followed_29 : decode b_M_followed 29 = .ok (.invokestatic 132, 3) := by decide +kernel
theorem d_M_followed_32 : decode b_M_followed 32 = .ok (.lastore, 1) := by decide +kernel
theorem d_M_followed_33 : decode b_M_followed 33 = .ok (.aload_n 0, 1) := by decide +kernel
theorem d_M_followed_34 : decode b_M_followed 34 = .ok (.getfield 44, 3) := by decide +kernel
theorem d_M_followed_37 : decode b_M_followed 37 = .ok (.iload_n 1, 1) := by decide +kernel
theorem d_M_followed_38 : decode b_M_followed 38 = .ok (.laload, 1) := by decide +kernel
theorem d_M_followed_39 : decode b_M_followed 39 = .ok (.invokestatic 190, 3) := by decide +kernel
theorem d_M_followed_42 : decode b_M_followed 42 = .ok (.lstore 6, 2) := by decide +kernel
theorem d_M_followed_44 : decode b_M_followed 44 = .ok (.aload_n 0, 1) := by decide +kernel
theorem d_M_followed_45 : decode b_M_followed 45 = .ok (.getfield 47, 3) := by decide +kernel
theorem d_M_followed_48 : decode b_M_followed 48 = .ok (.iload_n 1, 1) := by decide +kernel
theorem d_M_followed_49 : decode b_M_followed 49 = .ok (.aload_n 0, 1) := by decide +kernel
theorem d_M_followed_50 : decode b_M_followed 50 = .ok (.getfield 47, 3) := by decide +kernel
theorem d_M_followed_53 : decode b_M_followed 53 = .ok (.iload_n 1, 1) := by decide +kernel
theorem d_M_followed_54 : decode b_M_followed 54 = .ok (.laload, 1) := by decide +kernel
theorem d_M_followed_55 : decode b_M_followed 55 = .ok (.lload_n 2, 1) := by decide +kernel
theorem d_M_followed_56 : decode b_M_followed 56 = .ok (.ladd, 1) := by decide +kernel
theorem d_M_followed_57 : decode b_M_followed 57 = .ok (.lload 6, 2) := by decide +kernel
theorem d_M_followed_59 : decode b_M_followed 59 = .ok (.lload 4, 2) := by decide +kernel
theorem d_M_followed_61 : decode b_M_followed 61 = .ok (.lsub, 1) := by decide +kernel
theorem d_M_followed_62 : decode b_M_followed 62 = .ok (.aload_n 0, 1) := by decide +kernel
theorem d_M_followed_63 : decode b_M_followed 63 = .ok (.getfield 40, 3) := by decide +kernel
theorem d_M_followed_66 : decode b_M_followed 66 = .ok (.iload_n 1, 1) := by decide +kernel
theorem d_M_followed_67 : decode b_M_followed 67 = .ok (.laload, 1) := by decide +kernel
theorem d_M_followed_68 : decode b_M_followed 68 = .ok (.lmul, 1) := by decide +kernel
theorem d_M_followed_69 : decode b_M_followed 69 = .ok (.ldc2_w 198, 3) := by decide +kernel
theorem d_M_followed_72 : decode b_M_followed 72 = .ok (.ldiv, 1) := by decide +kernel
theorem d_M_followed_73 : decode b_M_followed 73 = .ok (.lsub, 1) := by decide +kernel
theorem d_M_followed_74 : decode b_M_followed 74 = .ok (.ldc2_w 200, 3) := by decide +kernel
theorem d_M_followed_77 : decode b_M_followed 77 = .ok (.invokestatic 132, 3) := by decide +kernel
theorem d_M_followed_80 : decode b_M_followed 80 = .ok (.lastore, 1) := by decide +kernel
theorem d_M_followed_81 : decode b_M_followed 81 = .ok (.aload_n 0, 1) := by decide +kernel
theorem d_M_followed_82 : decode b_M_followed 82 = .ok (.getfield 47, 3) := by decide +kernel
theorem d_M_followed_85 : decode b_M_followed 85 = .ok (.iload_n 1, 1) := by decide +kernel
theorem d_M_followed_86 : decode b_M_followed 86 = .ok (.laload, 1) := by decide +kernel
theorem d_M_followed_87 : decode b_M_followed 87 = .ok (.lconst 0, 1) := by decide +kernel
theorem d_M_followed_88 : decode b_M_followed 88 = .ok (.lcmp, 1) := by decide +kernel
theorem d_M_followed_89 : decode b_M_followed 89 = .ok (.ifCond .le (16), 3) := by decide +kernel
theorem d_M_followed_92 : decode b_M_followed 92 = .ok (.aload_n 0, 1) := by decide +kernel
theorem d_M_followed_93 : decode b_M_followed 93 = .ok (.getfield 47, 3) := by decide +kernel
theorem d_M_followed_96 : decode b_M_followed 96 = .ok (.iload_n 1, 1) := by decide +kernel
theorem d_M_followed_97 : decode b_M_followed 97 = .ok (.laload, 1) := by decide +kernel
theorem d_M_followed_98 : decode b_M_followed 98 = .ok (.ldc2_w 202, 3) := by decide +kernel
theorem d_M_followed_101 : decode b_M_followed 101 = .ok (.lsub, 1) := by decide +kernel
theorem d_M_followed_102 : decode b_M_followed 102 = .ok (.goto (13), 3) := by decide +kernel
theorem d_M_followed_105 : decode b_M_followed 105 = .ok (.aload_n 0, 1) := by decide +kernel
theorem d_M_followed_106 : decode b_M_followed 106 = .ok (.getfield 47, 3) := by decide +kernel
theorem d_M_followed_109 : decode b_M_followed 109 = .ok (.iload_n 1, 1) := by decide +kernel
theorem d_M_followed_110 : decode b_M_followed 110 = .ok (.laload, 1) := by decide +kernel
theorem d_M_followed_111 : decode b_M_followed 111 = .ok (.ldc2_w 202, 3) := by decide +kernel
theorem d_M_followed_114 : decode b_M_followed 114 = .ok (.ladd, 1) := by decide +kernel
theorem d_M_followed_115 : decode b_M_followed 115 = .ok (.lstore 8, 2) := by decide +kernel
theorem d_M_followed_117 : decode b_M_followed 117 = .ok (.aload_n 0, 1) := by decide +kernel
theorem d_M_followed_118 : decode b_M_followed 118 = .ok (.getfield 47, 3) := by decide +kernel
theorem d_M_followed_121 : decode b_M_followed 121 = .ok (.iload_n 1, 1) := by decide +kernel
theorem d_M_followed_122 : decode b_M_followed 122 = .ok (.laload, 1) := by decide +kernel
theorem d_M_followed_123 : decode b_M_followed 123 = .ok (.ldc2_w 204, 3) := by decide +kernel
theorem d_M_followed_126 : decode b_M_followed 126 = .ok (.lcmp, 1) := by decide +kernel
theorem d_M_followed_127 : decode b_M_followed 127 = .ok (.ifCond .lt (20), 3) := by decide +kernel
theorem d_M_followed_130 : decode b_M_followed 130 = .ok (.aload_n 0, 1) := by decide +kernel
theorem d_M_followed_131 : decode b_M_followed 131 = .ok (.getfield 47, 3) := by decide +kernel
theorem d_M_followed_134 : decode b_M_followed 134 = .ok (.iload_n 1, 1) := by decide +kernel
theorem d_M_followed_135 : decode b_M_followed 135 = .ok (.laload, 1) := by decide +kernel
theorem d_M_followed_136 : decode b_M_followed 136 = .ok (.ldc2_w 202, 3) := by decide +kernel
theorem d_M_followed_139 : decode b_M_followed 139 = .ok (.lcmp, 1) := by decide +kernel
theorem d_M_followed_140 : decode b_M_followed 140 = .ok (.ifCond .gt (7), 3) := by decide +kernel
theorem d_M_followed_143 : decode b_M_followed 143 = .ok (.iconst 1, 1) := by decide +kernel
theorem d_M_followed_144 : decode b_M_followed 144 = .ok (.goto (4), 3) := by decide +kernel
theorem d_M_followed_147 : decode b_M_followed 147 = .ok (.iconst 0, 1) := by decide +kernel
theorem d_M_followed_148 : decode b_M_followed 148 = .ok (.istore 10, 2) := by decide +kernel
theorem d_M_followed_150 : decode b_M_followed 150 = .ok (.aload_n 0, 1) := by decide +kernel
theorem d_M_followed_151 : decode b_M_followed 151 = .ok (.getfield 40, 3) := by decide +kernel
theorem d_M_followed_154 : decode b_M_followed 154 = .ok (.iload_n 1, 1) := by decide +kernel
theorem d_M_followed_155 : decode b_M_followed 155 = .ok (.iload 10, 2) := by decide +kernel
theorem d_M_followed_157 : decode b_M_followed 157 = .ok (.ifCond .eq (7), 3) := by decide +kernel
theorem d_M_followed_160 : decode b_M_followed 160 = .ok (.lconst 0, 1) := by decide +kernel
theorem d_M_followed_161 : decode b_M_followed 161 = .ok (.goto (22), 3) := by decide +kernel
theorem d_M_followed_164 : decode b_M_followed 164 = .ok (.ldc2_w 206, 3) := by decide +kernel
theorem d_M_followed_167 : decode b_M_followed 167 = .ok (.lload 8, 2) := by decide +kernel
theorem d_M_followed_169 : decode b_M_followed 169 = .ok (.lmul, 1) := by decide +kernel
theorem d_M_followed_170 : decode b_M_followed 170 = .ok (.ldc2_w 128, 3) := by decide +kernel
theorem d_M_followed_173 : decode b_M_followed 173 = .ok (.lload 6, 2) := by decide +kernel
theorem d_M_followed_175 : decode b_M_followed 175 = .ok (.ladd, 1) := by decide +kernel
theorem d_M_followed_176 : decode b_M_followed 176 = .ok (.ldiv, 1) := by decide +kernel
theorem d_M_followed_177 : decode b_M_followed 177 = .ok (.ldc2_w 196, 3) := by decide +kernel
theorem d_M_followed_180 : decode b_M_followed 180 = .ok (.invokestatic 132, 3) := by decide +kernel
theorem d_M_followed_183 : decode b_M_followed 183 = .ok (.lastore, 1) := by decide +kernel
theorem d_M_followed_184 : decode b_M_followed 184 = .ok (.return_, 1) := by decide +kernel
set_option maxHeartbeats 4000000 in
set_option maxRecDepth 100000 in
theorem c_M_followed (l : Launch) (D : va_G) (G : Nat → ClassId) (A : Nat → Prop) (Z : va_W) (h : Nat) (n : Nat) (kd : Int32) (ru : Int32) (ya : Nat) (sz : Nat) (ta : Nat) (la : Nat) (rg : Nat) (so : Nat) (bg : Bool) (nc : Nat) (lfa : Nat) (rta : Nat) (lb : Int32) (wo : Int32) (ft : Nat) (fha : Nat) (fva : Nat) (fla : Nat) (sp : Nat) (tc : Nat) (tha : Nat) (tva : Nat) (wa : Nat) (sa : Nat) (ca : Nat) (va : Nat) (tt : Int64) (ld : Int32) (pt : Int64) (pw : Int64) (rc : Nat) (ra : Nat) (wn : Int32) (wt : Nat → Int64) (su : Nat → Int64) (sc : Nat → Int64) (a : Nat) (d : Int64) (hn : hq_pow n) (ha : a < 96) (hs0 : 0 ≤ (su a).toInt) (hs1 : (su a).toInt ≤ 10000000000000000) (hd0 : -100000000 ≤ d.toInt) (hd1 : d.toInt ≤ 100000000) : hq_FV l D G A y_M_followed b_M_followed 11 1 [.ref h, .int (nI a), .long d] ([hq_o8 h (nI n) kd ru ya (nI sz) ta la (nI rg) (nI so) (hq_z bg) (nI nc) lfa rta lb wo (nI ft) fha fva fla (nI sp) (nI tc) tha tva wa sa ca va tt ld pt pw (nI rc) ra wn, hq_al wa (G 1) 96 wt, hq_al sa (G 1) 96 su, hq_al ca (G 1) 96 sc] ++ Z) ([hq_o8 h (nI n) kd ru ya (nI sz) ta la (nI rg) (nI so) (hq_z bg) (nI nc) lfa rta lb wo (nI ft) fha fva fla (nI sp) (nI tc) tha tva wa sa ca va tt ld pt pw (nI rc) ra wn, hq_al wa (G 1) 96 (vp_updL wt a (hq_m1w (wt a) (su a) (sc a) d)), hq_al sa (G 1) 96 (vp_updL su a (hq_s1M (su a) d)), hq_al ca (G 1) 96 (vp_updL sc a (hq_m1c (wt a) (su a) (sc a) d))] ++ Z) := by
  refine hq_bV (by decide) (Nat.le_of_ble_eq_true rfl) ?_
  intro p e s m args below meth c Q hx hb hml hts hown hA hK hN hin hret ls H locs hl hP hD hS
  have hown : s.vm.findClass "HashedLearnerModel" = some m.cls := hown
  have hl : lv_has ls 11 [(0, .ref h), (1, .int (nI a)), (2, .long d)] := hl
  refine lv_aload_n hx hb d_M_followed_0 rfl (lv_at hl 0 rfl) ?_
  refine va_get (D := D) (ci := 8) (v := .ref sa) (C := R_M) (T := F_M) (N := 34) hx hb hts uw_M hown hK hP 0 rfl rfl 24 (by decide) (hts _ fl_M_44) (fun _ h9 => h9) rfl d_M_followed_1 ?_
  refine lv_iload_n hx hb d_M_followed_4 rfl (lv_at hl 1 rfl) ?_
  refine hq_lald (j := a) hx hb hK hP 2 rfl (by omega) (by omega) d_M_followed_5 ?_
  have hPc : va_P D hq_cl ([] ++ ([hq_o8 h (nI n) kd ru ya (nI sz) ta la (nI rg) (nI so) (hq_z bg) (nI nc) lfa rta lb wo (nI ft) fha fva fla (nI sp) (nI tc) tha tva wa sa ca va tt ld pt pw (nI rc) ra wn, hq_al wa (G 1) 96 wt, hq_al sa (G 1) 96 su, hq_al ca (G 1) 96 sc] ++ Z)) H := hP
  have hDc : va_D A ([] ++ ([hq_o8 h (nI n) kd ru ya (nI sz) ta la (nI rg) (nI so) (hq_z bg) (nI nc) lfa rta lb wo (nI ft) fha fva fla (nI sp) (nI tc) tha tva wa sa ca va tt ld pt pw (nI rc) ra wn, hq_al wa (G 1) 96 wt, hq_al sa (G 1) 96 su, hq_al ca (G 1) 96 sc] ++ Z)) := hD
  refine hq_lF (hq_rS (As := [.long (su a)]) (rest := []) hx hb hml hown hts (c_M_root l D G A ([hq_o8 h (nI n) kd ru ya (nI sz) ta la (nI rg) (nI so) (hq_z bg) (nI nc) lfa rta lb wo (nI ft) fha fva fla (nI sp) (nI tc) tha tva wa sa ca va tt ld pt pw (nI rc) ra wn, hq_al wa (G 1) 96 wt, hq_al sa (G 1) 96 su, hq_al ca (G 1) 96 sc] ++ Z) (su a) (by first | assumption | omega) (by first | assumption | omega)) yy_M_root lk_M_190 hA hK hN hS hPc hDc rfl hl.1 rfl (Nat.le_of_ble_eq_true rfl) d_M_followed_6 ⟨by decide, by decide⟩ ⟨by decide, by decide⟩) hS (fun H locs hP hD hS => ?_)
  have hP : va_P D hq_cl ([hq_o8 h (nI n) kd ru ya (nI sz) ta la (nI rg) (nI so) (hq_z bg) (nI nc) lfa rta lb wo (nI ft) fha fva fla (nI sp) (nI tc) tha tva wa sa ca va tt ld pt pw (nI rc) ra wn, hq_al wa (G 1) 96 wt, hq_al sa (G 1) 96 su, hq_al ca (G 1) 96 sc] ++ Z) H := hP
  have hD : va_D A ([hq_o8 h (nI n) kd ru ya (nI sz) ta la (nI rg) (nI so) (hq_z bg) (nI nc) lfa rta lb wo (nI ft) fha fva fla (nI sp) (nI tc) tha tva wa sa ca va tt ld pt pw (nI rc) ra wn, hq_al wa (G 1) 96 wt, hq_al sa (G 1) 96 su, hq_al ca (G 1) 96 sc] ++ Z) := hD
  refine lv_lstore (nL := 11) (lv' := [(4, .long (hq_root (su a))), (0, .ref h), (1, .int (nI a)), (2, .long d)]) hx hb d_M_followed_9 hl (by decide) rfl (fun ls hl => ?_)
  refine lv_aload_n hx hb d_M_followed_11 rfl (lv_at hl 1 rfl) ?_
  refine va_get (D := D) (ci := 8) (v := .ref sa) (C := R_M) (T := F_M) (N := 34) hx hb hts uw_M hown hK hP 0 rfl rfl 24 (by decide) (hts _ fl_M_44) (fun _ h9 => h9) rfl d_M_followed_12 ?_
  refine lv_iload_n hx hb d_M_followed_15 rfl (lv_at hl 2 rfl) ?_
  refine lv_aload_n hx hb d_M_followed_16 rfl (lv_at hl 1 rfl) ?_
  refine va_get (D := D) (ci := 8) (v := .ref sa) (C := R_M) (T := F_M) (N := 34) hx hb hts uw_M hown hK hP 0 rfl rfl 24 (by decide) (hts _ fl_M_44) (fun _ h9 => h9) rfl d_M_followed_17 ?_
  refine lv_iload_n hx hb d_M_followed_20 rfl (lv_at hl 2 rfl) ?_
  refine hq_lald (j := a) hx hb hK hP 2 rfl (by omega) (by omega) d_M_followed_21 ?_
  refine lv_lload_n hx hb d_M_followed_22 rfl (lv_at hl 3 rfl) ?_
  refine lv_lload_n hx hb d_M_followed_23 rfl (lv_at hl 3 rfl) ?_
  refine lv_lmul hx hb d_M_followed_24 ?_
  refine lv_ladd hx hb d_M_followed_25 ?_
  refine lv_ldc2 (v := 10000000000000000) hx hb hown (hts _ kl_M_188) d_M_followed_26 ?_
  have hPc : va_P D hq_cl ([] ++ ([hq_o8 h (nI n) kd ru ya (nI sz) ta la (nI rg) (nI so) (hq_z bg) (nI nc) lfa rta lb wo (nI ft) fha fva fla (nI sp) (nI tc) tha tva wa sa ca va tt ld pt pw (nI rc) ra wn, hq_al wa (G 1) 96 wt, hq_al sa (G 1) 96 su, hq_al ca (G 1) 96 sc] ++ Z)) H := hP
  have hDc : va_D A ([] ++ ([hq_o8 h (nI n) kd ru ya (nI sz) ta la (nI rg) (nI so) (hq_z bg) (nI nc) lfa rta lb wo (nI ft) fha fva fla (nI sp) (nI tc) tha tva wa sa ca va tt ld pt pw (nI rc) ra wn, hq_al wa (G 1) 96 wt, hq_al sa (G 1) 96 su, hq_al ca (G 1) 96 sc] ++ Z)) := hD
  refine hq_lF (hq_rS (As := [.long ((su a) + (d * d)), .long 10000000000000000]) (rest := [.int (nI a), .ref sa]) hx hb hml hown hts (c_M_clip l D G A ([hq_o8 h (nI n) kd ru ya (nI sz) ta la (nI rg) (nI so) (hq_z bg) (nI nc) lfa rta lb wo (nI ft) fha fva fla (nI sp) (nI tc) tha tva wa sa ca va tt ld pt pw (nI rc) ra wn, hq_al wa (G 1) 96 wt, hq_al sa (G 1) 96 su, hq_al ca (G 1) 96 sc] ++ Z) ((su a) + (d * d)) 10000000000000000) yy_M_clip lk_M_132 hA hK hN hS hPc hDc rfl hl.1 rfl (Nat.le_of_ble_eq_true rfl) d_M_followed_29 ⟨by decide, by decide⟩ ⟨by decide, by decide⟩) hS (fun H locs hP hD hS => ?_)
  have hP : va_P D hq_cl ([hq_o8 h (nI n) kd ru ya (nI sz) ta la (nI rg) (nI so) (hq_z bg) (nI nc) lfa rta lb wo (nI ft) fha fva fla (nI sp) (nI tc) tha tva wa sa ca va tt ld pt pw (nI rc) ra wn, hq_al wa (G 1) 96 wt, hq_al sa (G 1) 96 su, hq_al ca (G 1) 96 sc] ++ Z) H := hP
  have hD : va_D A ([hq_o8 h (nI n) kd ru ya (nI sz) ta la (nI rg) (nI so) (hq_z bg) (nI nc) lfa rta lb wo (nI ft) fha fva fla (nI sp) (nI tc) tha tva wa sa ca va tt ld pt pw (nI rc) ra wn, hq_al wa (G 1) 96 wt, hq_al sa (G 1) 96 su, hq_al ca (G 1) 96 sc] ++ Z) := hD
  refine hq_topl (x' := hq_s1M (su a) d) (rfl) ?_
  refine hq_last (j := a) hx hb hK hP hD hS 2 rfl (by omega) (by omega) d_M_followed_32 (fun H locs hP hD hS => ?_)
  have hP : va_P D hq_cl ([hq_o8 h (nI n) kd ru ya (nI sz) ta la (nI rg) (nI so) (hq_z bg) (nI nc) lfa rta lb wo (nI ft) fha fva fla (nI sp) (nI tc) tha tva wa sa ca va tt ld pt pw (nI rc) ra wn, hq_al wa (G 1) 96 wt, hq_al sa (G 1) 96 (vp_updL su a (hq_s1M (su a) d)), hq_al ca (G 1) 96 sc] ++ Z) H := hP
  have hD : va_D A ([hq_o8 h (nI n) kd ru ya (nI sz) ta la (nI rg) (nI so) (hq_z bg) (nI nc) lfa rta lb wo (nI ft) fha fva fla (nI sp) (nI tc) tha tva wa sa ca va tt ld pt pw (nI rc) ra wn, hq_al wa (G 1) 96 wt, hq_al sa (G 1) 96 (vp_updL su a (hq_s1M (su a) d)), hq_al ca (G 1) 96 sc] ++ Z) := hD
  refine lv_aload_n hx hb d_M_followed_33 rfl (lv_at hl 1 rfl) ?_
  refine va_get (D := D) (ci := 8) (v := .ref sa) (C := R_M) (T := F_M) (N := 34) hx hb hts uw_M hown hK hP 0 rfl rfl 24 (by decide) (hts _ fl_M_44) (fun _ h9 => h9) rfl d_M_followed_34 ?_
  refine lv_iload_n hx hb d_M_followed_37 rfl (lv_at hl 2 rfl) ?_
  refine hq_lald (j := a) hx hb hK hP 2 rfl (by omega) (by omega) d_M_followed_38 ?_
  refine hq_topl (x' := hq_s1M (su a) d) (pk_uLs) ?_
  have hPc : va_P D hq_cl ([] ++ ([hq_o8 h (nI n) kd ru ya (nI sz) ta la (nI rg) (nI so) (hq_z bg) (nI nc) lfa rta lb wo (nI ft) fha fva fla (nI sp) (nI tc) tha tva wa sa ca va tt ld pt pw (nI rc) ra wn, hq_al wa (G 1) 96 wt, hq_al sa (G 1) 96 (vp_updL su a (hq_s1M (su a) d)), hq_al ca (G 1) 96 sc] ++ Z)) H := hP
  have hDc : va_D A ([] ++ ([hq_o8 h (nI n) kd ru ya (nI sz) ta la (nI rg) (nI so) (hq_z bg) (nI nc) lfa rta lb wo (nI ft) fha fva fla (nI sp) (nI tc) tha tva wa sa ca va tt ld pt pw (nI rc) ra wn, hq_al wa (G 1) 96 wt, hq_al sa (G 1) 96 (vp_updL su a (hq_s1M (su a) d)), hq_al ca (G 1) 96 sc] ++ Z)) := hD
  refine hq_lF (hq_rS (As := [.long (hq_s1M (su a) d)]) (rest := []) hx hb hml hown hts (c_M_root l D G A ([hq_o8 h (nI n) kd ru ya (nI sz) ta la (nI rg) (nI so) (hq_z bg) (nI nc) lfa rta lb wo (nI ft) fha fva fla (nI sp) (nI tc) tha tva wa sa ca va tt ld pt pw (nI rc) ra wn, hq_al wa (G 1) 96 wt, hq_al sa (G 1) 96 (vp_updL su a (hq_s1M (su a) d)), hq_al ca (G 1) 96 sc] ++ Z) (hq_s1M (su a) d) ((hq_s1M_in hs0 hs1 hd0 hd1).1) ((hq_s1M_in hs0 hs1 hd0 hd1).2)) yy_M_root lk_M_190 hA hK hN hS hPc hDc rfl hl.1 rfl (Nat.le_of_ble_eq_true rfl) d_M_followed_39 ⟨by decide, by decide⟩ ⟨by decide, by decide⟩) hS (fun H locs hP hD hS => ?_)
  have hP : va_P D hq_cl ([hq_o8 h (nI n) kd ru ya (nI sz) ta la (nI rg) (nI so) (hq_z bg) (nI nc) lfa rta lb wo (nI ft) fha fva fla (nI sp) (nI tc) tha tva wa sa ca va tt ld pt pw (nI rc) ra wn, hq_al wa (G 1) 96 wt, hq_al sa (G 1) 96 (vp_updL su a (hq_s1M (su a) d)), hq_al ca (G 1) 96 sc] ++ Z) H := hP
  have hD : va_D A ([hq_o8 h (nI n) kd ru ya (nI sz) ta la (nI rg) (nI so) (hq_z bg) (nI nc) lfa rta lb wo (nI ft) fha fva fla (nI sp) (nI tc) tha tva wa sa ca va tt ld pt pw (nI rc) ra wn, hq_al wa (G 1) 96 wt, hq_al sa (G 1) 96 (vp_updL su a (hq_s1M (su a) d)), hq_al ca (G 1) 96 sc] ++ Z) := hD
  refine lv_lstore (nL := 11) (lv' := [(6, .long (hq_root (hq_s1M (su a) d))), (4, .long (hq_root (su a))), (0, .ref h), (1, .int (nI a)), (2, .long d)]) hx hb d_M_followed_42 hl (by decide) rfl (fun ls hl => ?_)
  refine lv_aload_n hx hb d_M_followed_44 rfl (lv_at hl 2 rfl) ?_
  refine va_get (D := D) (ci := 8) (v := .ref ca) (C := R_M) (T := F_M) (N := 34) hx hb hts uw_M hown hK hP 0 rfl rfl 25 (by decide) (hts _ fl_M_47) (fun _ h9 => h9) rfl d_M_followed_45 ?_
  refine lv_iload_n hx hb d_M_followed_48 rfl (lv_at hl 3 rfl) ?_
  refine lv_aload_n hx hb d_M_followed_49 rfl (lv_at hl 2 rfl) ?_
  refine va_get (D := D) (ci := 8) (v := .ref ca) (C := R_M) (T := F_M) (N := 34) hx hb hts uw_M hown hK hP 0 rfl rfl 25 (by decide) (hts _ fl_M_47) (fun _ h9 => h9) rfl d_M_followed_50 ?_
  refine lv_iload_n hx hb d_M_followed_53 rfl (lv_at hl 3 rfl) ?_
  refine hq_lald (j := a) hx hb hK hP 3 rfl (by omega) (by omega) d_M_followed_54 ?_
  refine lv_lload_n hx hb d_M_followed_55 rfl (lv_at hl 4 rfl) ?_
  refine lv_ladd hx hb d_M_followed_56 ?_
  refine lv_lload hx hb d_M_followed_57 (lv_at hl 0 rfl) ?_
  refine lv_lload hx hb d_M_followed_59 (lv_at hl 1 rfl) ?_
  refine lv_lsub hx hb d_M_followed_61 ?_
  refine lv_aload_n hx hb d_M_followed_62 rfl (lv_at hl 2 rfl) ?_
  refine va_get (D := D) (ci := 8) (v := .ref wa) (C := R_M) (T := F_M) (N := 34) hx hb hts uw_M hown hK hP 0 rfl rfl 23 (by decide) (hts _ fl_M_40) (fun _ h9 => h9) rfl d_M_followed_63 ?_
  refine lv_iload_n hx hb d_M_followed_66 rfl (lv_at hl 3 rfl) ?_
  refine hq_lald (j := a) hx hb hK hP 1 rfl (by omega) (by omega) d_M_followed_67 ?_
  refine lv_lmul hx hb d_M_followed_68 ?_
  refine lv_ldc2 (v := 5000) hx hb hown (hts _ kl_M_198) d_M_followed_69 ?_
  refine lv_ldiv hx hb d_M_followed_72 (by decide) ?_
  refine lv_lsub hx hb d_M_followed_73 ?_
  refine lv_ldc2 (v := 1000000000000) hx hb hown (hts _ kl_M_200) d_M_followed_74 ?_
  have hPc : va_P D hq_cl ([] ++ ([hq_o8 h (nI n) kd ru ya (nI sz) ta la (nI rg) (nI so) (hq_z bg) (nI nc) lfa rta lb wo (nI ft) fha fva fla (nI sp) (nI tc) tha tva wa sa ca va tt ld pt pw (nI rc) ra wn, hq_al wa (G 1) 96 wt, hq_al sa (G 1) 96 (vp_updL su a (hq_s1M (su a) d)), hq_al ca (G 1) 96 sc] ++ Z)) H := hP
  have hDc : va_D A ([] ++ ([hq_o8 h (nI n) kd ru ya (nI sz) ta la (nI rg) (nI so) (hq_z bg) (nI nc) lfa rta lb wo (nI ft) fha fva fla (nI sp) (nI tc) tha tva wa sa ca va tt ld pt pw (nI rc) ra wn, hq_al wa (G 1) 96 wt, hq_al sa (G 1) 96 (vp_updL su a (hq_s1M (su a) d)), hq_al ca (G 1) 96 sc] ++ Z)) := hD
  refine hq_lF (hq_rS (As := [.long (((sc a) + d) - ((((hq_root (hq_s1M (su a) d)) - (hq_root (su a))) * (wt a)) / 5000)), .long 1000000000000]) (rest := [.int (nI a), .ref ca]) hx hb hml hown hts (c_M_clip l D G A ([hq_o8 h (nI n) kd ru ya (nI sz) ta la (nI rg) (nI so) (hq_z bg) (nI nc) lfa rta lb wo (nI ft) fha fva fla (nI sp) (nI tc) tha tva wa sa ca va tt ld pt pw (nI rc) ra wn, hq_al wa (G 1) 96 wt, hq_al sa (G 1) 96 (vp_updL su a (hq_s1M (su a) d)), hq_al ca (G 1) 96 sc] ++ Z) (((sc a) + d) - ((((hq_root (hq_s1M (su a) d)) - (hq_root (su a))) * (wt a)) / 5000)) 1000000000000) yy_M_clip lk_M_132 hA hK hN hS hPc hDc rfl hl.1 rfl (Nat.le_of_ble_eq_true rfl) d_M_followed_77 ⟨by decide, by decide⟩ ⟨by decide, by decide⟩) hS (fun H locs hP hD hS => ?_)
  have hP : va_P D hq_cl ([hq_o8 h (nI n) kd ru ya (nI sz) ta la (nI rg) (nI so) (hq_z bg) (nI nc) lfa rta lb wo (nI ft) fha fva fla (nI sp) (nI tc) tha tva wa sa ca va tt ld pt pw (nI rc) ra wn, hq_al wa (G 1) 96 wt, hq_al sa (G 1) 96 (vp_updL su a (hq_s1M (su a) d)), hq_al ca (G 1) 96 sc] ++ Z) H := hP
  have hD : va_D A ([hq_o8 h (nI n) kd ru ya (nI sz) ta la (nI rg) (nI so) (hq_z bg) (nI nc) lfa rta lb wo (nI ft) fha fva fla (nI sp) (nI tc) tha tva wa sa ca va tt ld pt pw (nI rc) ra wn, hq_al wa (G 1) 96 wt, hq_al sa (G 1) 96 (vp_updL su a (hq_s1M (su a) d)), hq_al ca (G 1) 96 sc] ++ Z) := hD
  refine hq_topl (x' := hq_m1c (wt a) (su a) (sc a) d) (rfl) ?_
  refine hq_last (j := a) hx hb hK hP hD hS 3 rfl (by omega) (by omega) d_M_followed_80 (fun H locs hP hD hS => ?_)
  have hP : va_P D hq_cl ([hq_o8 h (nI n) kd ru ya (nI sz) ta la (nI rg) (nI so) (hq_z bg) (nI nc) lfa rta lb wo (nI ft) fha fva fla (nI sp) (nI tc) tha tva wa sa ca va tt ld pt pw (nI rc) ra wn, hq_al wa (G 1) 96 wt, hq_al sa (G 1) 96 (vp_updL su a (hq_s1M (su a) d)), hq_al ca (G 1) 96 (vp_updL sc a (hq_m1c (wt a) (su a) (sc a) d))] ++ Z) H := hP
  have hD : va_D A ([hq_o8 h (nI n) kd ru ya (nI sz) ta la (nI rg) (nI so) (hq_z bg) (nI nc) lfa rta lb wo (nI ft) fha fva fla (nI sp) (nI tc) tha tva wa sa ca va tt ld pt pw (nI rc) ra wn, hq_al wa (G 1) 96 wt, hq_al sa (G 1) 96 (vp_updL su a (hq_s1M (su a) d)), hq_al ca (G 1) 96 (vp_updL sc a (hq_m1c (wt a) (su a) (sc a) d))] ++ Z) := hD
  refine lv_aload_n hx hb d_M_followed_81 rfl (lv_at hl 2 rfl) ?_
  refine va_get (D := D) (ci := 8) (v := .ref ca) (C := R_M) (T := F_M) (N := 34) hx hb hts uw_M hown hK hP 0 rfl rfl 25 (by decide) (hts _ fl_M_47) (fun _ h9 => h9) rfl d_M_followed_82 ?_
  refine lv_iload_n hx hb d_M_followed_85 rfl (lv_at hl 3 rfl) ?_
  refine hq_lald (j := a) hx hb hK hP 3 rfl (by omega) (by omega) d_M_followed_86 ?_
  refine hq_topl (x' := hq_m1c (wt a) (su a) (sc a) d) (pk_uLs) ?_
  refine lv_lconst (v := 0) hx hb d_M_followed_87 (by decide) ?_
  refine W.lcmp hx hb d_M_followed_88 ?_
  refine lv_if_le (tgt := 105) hx hb d_M_followed_89 rfl (fun c89 => ?_) (fun c89 => ?_)
  · -- 89 taken
    have c89 : (hq_m1c (wt a) (su a) (sc a) d) ≤ 0 := (lg_cmp_le (hq_m1c (wt a) (su a) (sc a) d) 0).mp c89
    refine lv_aload_n hx hb d_M_followed_105 rfl (lv_at hl 2 rfl) ?_
    refine va_get (D := D) (ci := 8) (v := .ref ca) (C := R_M) (T := F_M) (N := 34) hx hb hts uw_M hown hK hP 0 rfl rfl 25 (by decide) (hts _ fl_M_47) (fun _ h9 => h9) rfl d_M_followed_106 ?_
    refine lv_iload_n hx hb d_M_followed_109 rfl (lv_at hl 3 rfl) ?_
    refine hq_lald (j := a) hx hb hK hP 3 rfl (by omega) (by omega) d_M_followed_110 ?_
    refine hq_topl (x' := hq_m1c (wt a) (su a) (sc a) d) (pk_uLs) ?_
    refine lv_ldc2 (v := 10) hx hb hown (hts _ kl_M_202) d_M_followed_111 ?_
    refine lv_ladd hx hb d_M_followed_114 ?_
    refine lv_lstore (nL := 11) (lv' := [(8, .long ((hq_m1c (wt a) (su a) (sc a) d) + 10)), (6, .long (hq_root (hq_s1M (su a) d))), (4, .long (hq_root (su a))), (0, .ref h), (1, .int (nI a)), (2, .long d)]) hx hb d_M_followed_115 hl (by decide) rfl (fun ls hl => ?_)
    refine lv_aload_n hx hb d_M_followed_117 rfl (lv_at hl 3 rfl) ?_
    refine va_get (D := D) (ci := 8) (v := .ref ca) (C := R_M) (T := F_M) (N := 34) hx hb hts uw_M hown hK hP 0 rfl rfl 25 (by decide) (hts _ fl_M_47) (fun _ h9 => h9) rfl d_M_followed_118 ?_
    refine lv_iload_n hx hb d_M_followed_121 rfl (lv_at hl 4 rfl) ?_
    refine hq_lald (j := a) hx hb hK hP 3 rfl (by omega) (by omega) d_M_followed_122 ?_
    refine hq_topl (x' := hq_m1c (wt a) (su a) (sc a) d) (pk_uLs) ?_
    refine lv_ldc2 (v := (-10)) hx hb hown (hts _ kl_M_204) d_M_followed_123 ?_
    refine W.lcmp hx hb d_M_followed_126 ?_
    refine lv_if_lt (tgt := 147) hx hb d_M_followed_127 rfl (fun c127 => ?_) (fun c127 => ?_)
    · -- 127 taken
      have c127 : (hq_m1c (wt a) (su a) (sc a) d) < (-10) := (lg_cmp_lt (hq_m1c (wt a) (su a) (sc a) d) (-10)).mp c127
      refine lv_iconst (v := 0) hx hb d_M_followed_147 (by decide) ?_
      refine lv_istore (nL := 11) (lv' := [(10, .int 0), (8, .long ((hq_m1c (wt a) (su a) (sc a) d) + 10)), (6, .long (hq_root (hq_s1M (su a) d))), (4, .long (hq_root (su a))), (0, .ref h), (1, .int (nI a)), (2, .long d)]) hx hb d_M_followed_148 hl (by decide) rfl (fun ls hl => ?_)
      refine lv_aload_n hx hb d_M_followed_150 rfl (lv_at hl 4 rfl) ?_
      refine va_get (D := D) (ci := 8) (v := .ref wa) (C := R_M) (T := F_M) (N := 34) hx hb hts uw_M hown hK hP 0 rfl rfl 23 (by decide) (hts _ fl_M_40) (fun _ h9 => h9) rfl d_M_followed_151 ?_
      refine lv_iload_n hx hb d_M_followed_154 rfl (lv_at hl 5 rfl) ?_
      refine lv_iload hx hb d_M_followed_155 (lv_at hl 0 rfl) ?_
      refine lv_if_eq (tgt := 164) hx hb d_M_followed_157 rfl (fun c157 => ?_) (fun c157 => ?_)
      · skip
        refine lv_ldc2 (v := (-5000)) hx hb hown (hts _ kl_M_206) d_M_followed_164 ?_
        refine lv_lload hx hb d_M_followed_167 (lv_at hl 1 rfl) ?_
        refine lv_lmul hx hb d_M_followed_169 ?_
        refine lv_ldc2 (v := 100) hx hb hown (hts _ kl_M_128) d_M_followed_170 ?_
        refine lv_lload hx hb d_M_followed_173 (lv_at hl 2 rfl) ?_
        refine lv_ladd hx hb d_M_followed_175 ?_
        refine lv_ldiv hx hb d_M_followed_176 (hq_den1_ne (hq_root_in2 (hq_s1M_in hs0 hs1 hd0 hd1).2).1 (hq_root_in2 (hq_s1M_in hs0 hs1 hd0 hd1).2).2) ?_
        refine lv_ldc2 (v := 100000000) hx hb hown (hts _ kl_M_196) d_M_followed_177 ?_
        have hPc : va_P D hq_cl ([] ++ ([hq_o8 h (nI n) kd ru ya (nI sz) ta la (nI rg) (nI so) (hq_z bg) (nI nc) lfa rta lb wo (nI ft) fha fva fla (nI sp) (nI tc) tha tva wa sa ca va tt ld pt pw (nI rc) ra wn, hq_al wa (G 1) 96 wt, hq_al sa (G 1) 96 (vp_updL su a (hq_s1M (su a) d)), hq_al ca (G 1) 96 (vp_updL sc a (hq_m1c (wt a) (su a) (sc a) d))] ++ Z)) H := hP
        have hDc : va_D A ([] ++ ([hq_o8 h (nI n) kd ru ya (nI sz) ta la (nI rg) (nI so) (hq_z bg) (nI nc) lfa rta lb wo (nI ft) fha fva fla (nI sp) (nI tc) tha tva wa sa ca va tt ld pt pw (nI rc) ra wn, hq_al wa (G 1) 96 wt, hq_al sa (G 1) 96 (vp_updL su a (hq_s1M (su a) d)), hq_al ca (G 1) 96 (vp_updL sc a (hq_m1c (wt a) (su a) (sc a) d))] ++ Z)) := hD
        refine hq_lF (hq_rS (As := [.long (((-5000) * ((hq_m1c (wt a) (su a) (sc a) d) + 10)) / (100 + (hq_root (hq_s1M (su a) d)))), .long 100000000]) (rest := [.int (nI a), .ref wa]) hx hb hml hown hts (c_M_clip l D G A ([hq_o8 h (nI n) kd ru ya (nI sz) ta la (nI rg) (nI so) (hq_z bg) (nI nc) lfa rta lb wo (nI ft) fha fva fla (nI sp) (nI tc) tha tva wa sa ca va tt ld pt pw (nI rc) ra wn, hq_al wa (G 1) 96 wt, hq_al sa (G 1) 96 (vp_updL su a (hq_s1M (su a) d)), hq_al ca (G 1) 96 (vp_updL sc a (hq_m1c (wt a) (su a) (sc a) d))] ++ Z) (((-5000) * ((hq_m1c (wt a) (su a) (sc a) d) + 10)) / (100 + (hq_root (hq_s1M (su a) d)))) 100000000) yy_M_clip lk_M_132 hA hK hN hS hPc hDc rfl hl.1 rfl (Nat.le_of_ble_eq_true rfl) d_M_followed_180 ⟨by decide, by decide⟩ ⟨by decide, by decide⟩) hS (fun H locs hP hD hS => ?_)
        have hP : va_P D hq_cl ([hq_o8 h (nI n) kd ru ya (nI sz) ta la (nI rg) (nI so) (hq_z bg) (nI nc) lfa rta lb wo (nI ft) fha fva fla (nI sp) (nI tc) tha tva wa sa ca va tt ld pt pw (nI rc) ra wn, hq_al wa (G 1) 96 wt, hq_al sa (G 1) 96 (vp_updL su a (hq_s1M (su a) d)), hq_al ca (G 1) 96 (vp_updL sc a (hq_m1c (wt a) (su a) (sc a) d))] ++ Z) H := hP
        have hD : va_D A ([hq_o8 h (nI n) kd ru ya (nI sz) ta la (nI rg) (nI so) (hq_z bg) (nI nc) lfa rta lb wo (nI ft) fha fva fla (nI sp) (nI tc) tha tva wa sa ca va tt ld pt pw (nI rc) ra wn, hq_al wa (G 1) 96 wt, hq_al sa (G 1) 96 (vp_updL su a (hq_s1M (su a) d)), hq_al ca (G 1) 96 (vp_updL sc a (hq_m1c (wt a) (su a) (sc a) d))] ++ Z) := hD
        refine hq_last (j := a) hx hb hK hP hD hS 1 rfl (by omega) (by omega) d_M_followed_183 (fun H locs hP hD hS => ?_)
        have hP : va_P D hq_cl ([hq_o8 h (nI n) kd ru ya (nI sz) ta la (nI rg) (nI so) (hq_z bg) (nI nc) lfa rta lb wo (nI ft) fha fva fla (nI sp) (nI tc) tha tva wa sa ca va tt ld pt pw (nI rc) ra wn, hq_al wa (G 1) 96 (vp_updL wt a (f_M_clip (((-5000) * ((hq_m1c (wt a) (su a) (sc a) d) + 10)) / (100 + (hq_root (hq_s1M (su a) d)))) 100000000)), hq_al sa (G 1) 96 (vp_updL su a (hq_s1M (su a) d)), hq_al ca (G 1) 96 (vp_updL sc a (hq_m1c (wt a) (su a) (sc a) d))] ++ Z) H := hP
        have hD : va_D A ([hq_o8 h (nI n) kd ru ya (nI sz) ta la (nI rg) (nI so) (hq_z bg) (nI nc) lfa rta lb wo (nI ft) fha fva fla (nI sp) (nI tc) tha tva wa sa ca va tt ld pt pw (nI rc) ra wn, hq_al wa (G 1) 96 (vp_updL wt a (f_M_clip (((-5000) * ((hq_m1c (wt a) (su a) (sc a) d) + 10)) / (100 + (hq_root (hq_s1M (su a) d)))) 100000000)), hq_al sa (G 1) 96 (vp_updL su a (hq_s1M (su a) d)), hq_al ca (G 1) 96 (vp_updL sc a (hq_m1c (wt a) (su a) (sc a) d))] ++ Z) := hD
        have e9_0 : (vp_updL wt a (hq_m1w (wt a) (su a) (sc a) d)) = (vp_updL wt a (f_M_clip (((-5000) * ((hq_m1c (wt a) (su a) (sc a) d) + 10)) / (100 + (hq_root (hq_s1M (su a) d)))) 100000000)) := by rw [hq_m1w, if_pos c89, if_pos c127]
        have hP : va_P D hq_cl ([hq_o8 h (nI n) kd ru ya (nI sz) ta la (nI rg) (nI so) (hq_z bg) (nI nc) lfa rta lb wo (nI ft) fha fva fla (nI sp) (nI tc) tha tva wa sa ca va tt ld pt pw (nI rc) ra wn, hq_al wa (G 1) 96 (vp_updL wt a (hq_m1w (wt a) (su a) (sc a) d)), hq_al sa (G 1) 96 (vp_updL su a (hq_s1M (su a) d)), hq_al ca (G 1) 96 (vp_updL sc a (hq_m1c (wt a) (su a) (sc a) d))] ++ Z) H := by rw [e9_0]; exact hP
        have hD : va_D A ([hq_o8 h (nI n) kd ru ya (nI sz) ta la (nI rg) (nI so) (hq_z bg) (nI nc) lfa rta lb wo (nI ft) fha fva fla (nI sp) (nI tc) tha tva wa sa ca va tt ld pt pw (nI rc) ra wn, hq_al wa (G 1) 96 (vp_updL wt a (hq_m1w (wt a) (su a) (sc a) d)), hq_al sa (G 1) 96 (vp_updL su a (hq_s1M (su a) d)), hq_al ca (G 1) 96 (vp_updL sc a (hq_m1c (wt a) (su a) (sc a) d))] ++ Z) := by rw [e9_0]; exact hD
        exact hret () H locs 184 ls d_M_followed_184 (trivial) hP hD hS
      · exact absurd (by decide) c157
    · -- 127 not taken
      have c127 : ¬ (hq_m1c (wt a) (su a) (sc a) d) < (-10) := fun h => c127 ((lg_cmp_lt (hq_m1c (wt a) (su a) (sc a) d) (-10)).mpr h)
      refine lv_aload_n hx hb d_M_followed_130 rfl (lv_at hl 3 rfl) ?_
      refine va_get (D := D) (ci := 8) (v := .ref ca) (C := R_M) (T := F_M) (N := 34) hx hb hts uw_M hown hK hP 0 rfl rfl 25 (by decide) (hts _ fl_M_47) (fun _ h9 => h9) rfl d_M_followed_131 ?_
      refine lv_iload_n hx hb d_M_followed_134 rfl (lv_at hl 4 rfl) ?_
      refine hq_lald (j := a) hx hb hK hP 3 rfl (by omega) (by omega) d_M_followed_135 ?_
      refine hq_topl (x' := hq_m1c (wt a) (su a) (sc a) d) (pk_uLs) ?_
      refine lv_ldc2 (v := 10) hx hb hown (hts _ kl_M_202) d_M_followed_136 ?_
      refine W.lcmp hx hb d_M_followed_139 ?_
      refine lv_if_gt (tgt := 147) hx hb d_M_followed_140 rfl (fun c140 => ?_) (fun c140 => ?_)
      · -- 140 taken
        have c140 : 10 < (hq_m1c (wt a) (su a) (sc a) d) := (lg_cmp_gt (hq_m1c (wt a) (su a) (sc a) d) 10).mp c140
        refine lv_iconst (v := 0) hx hb d_M_followed_147 (by decide) ?_
        refine lv_istore (nL := 11) (lv' := [(10, .int 0), (8, .long ((hq_m1c (wt a) (su a) (sc a) d) + 10)), (6, .long (hq_root (hq_s1M (su a) d))), (4, .long (hq_root (su a))), (0, .ref h), (1, .int (nI a)), (2, .long d)]) hx hb d_M_followed_148 hl (by decide) rfl (fun ls hl => ?_)
        refine lv_aload_n hx hb d_M_followed_150 rfl (lv_at hl 4 rfl) ?_
        refine va_get (D := D) (ci := 8) (v := .ref wa) (C := R_M) (T := F_M) (N := 34) hx hb hts uw_M hown hK hP 0 rfl rfl 23 (by decide) (hts _ fl_M_40) (fun _ h9 => h9) rfl d_M_followed_151 ?_
        refine lv_iload_n hx hb d_M_followed_154 rfl (lv_at hl 5 rfl) ?_
        refine lv_iload hx hb d_M_followed_155 (lv_at hl 0 rfl) ?_
        refine lv_if_eq (tgt := 164) hx hb d_M_followed_157 rfl (fun c157 => ?_) (fun c157 => ?_)
        · skip
          refine lv_ldc2 (v := (-5000)) hx hb hown (hts _ kl_M_206) d_M_followed_164 ?_
          refine lv_lload hx hb d_M_followed_167 (lv_at hl 1 rfl) ?_
          refine lv_lmul hx hb d_M_followed_169 ?_
          refine lv_ldc2 (v := 100) hx hb hown (hts _ kl_M_128) d_M_followed_170 ?_
          refine lv_lload hx hb d_M_followed_173 (lv_at hl 2 rfl) ?_
          refine lv_ladd hx hb d_M_followed_175 ?_
          refine lv_ldiv hx hb d_M_followed_176 (hq_den1_ne (hq_root_in2 (hq_s1M_in hs0 hs1 hd0 hd1).2).1 (hq_root_in2 (hq_s1M_in hs0 hs1 hd0 hd1).2).2) ?_
          refine lv_ldc2 (v := 100000000) hx hb hown (hts _ kl_M_196) d_M_followed_177 ?_
          have hPc : va_P D hq_cl ([] ++ ([hq_o8 h (nI n) kd ru ya (nI sz) ta la (nI rg) (nI so) (hq_z bg) (nI nc) lfa rta lb wo (nI ft) fha fva fla (nI sp) (nI tc) tha tva wa sa ca va tt ld pt pw (nI rc) ra wn, hq_al wa (G 1) 96 wt, hq_al sa (G 1) 96 (vp_updL su a (hq_s1M (su a) d)), hq_al ca (G 1) 96 (vp_updL sc a (hq_m1c (wt a) (su a) (sc a) d))] ++ Z)) H := hP
          have hDc : va_D A ([] ++ ([hq_o8 h (nI n) kd ru ya (nI sz) ta la (nI rg) (nI so) (hq_z bg) (nI nc) lfa rta lb wo (nI ft) fha fva fla (nI sp) (nI tc) tha tva wa sa ca va tt ld pt pw (nI rc) ra wn, hq_al wa (G 1) 96 wt, hq_al sa (G 1) 96 (vp_updL su a (hq_s1M (su a) d)), hq_al ca (G 1) 96 (vp_updL sc a (hq_m1c (wt a) (su a) (sc a) d))] ++ Z)) := hD
          refine hq_lF (hq_rS (As := [.long (((-5000) * ((hq_m1c (wt a) (su a) (sc a) d) + 10)) / (100 + (hq_root (hq_s1M (su a) d)))), .long 100000000]) (rest := [.int (nI a), .ref wa]) hx hb hml hown hts (c_M_clip l D G A ([hq_o8 h (nI n) kd ru ya (nI sz) ta la (nI rg) (nI so) (hq_z bg) (nI nc) lfa rta lb wo (nI ft) fha fva fla (nI sp) (nI tc) tha tva wa sa ca va tt ld pt pw (nI rc) ra wn, hq_al wa (G 1) 96 wt, hq_al sa (G 1) 96 (vp_updL su a (hq_s1M (su a) d)), hq_al ca (G 1) 96 (vp_updL sc a (hq_m1c (wt a) (su a) (sc a) d))] ++ Z) (((-5000) * ((hq_m1c (wt a) (su a) (sc a) d) + 10)) / (100 + (hq_root (hq_s1M (su a) d)))) 100000000) yy_M_clip lk_M_132 hA hK hN hS hPc hDc rfl hl.1 rfl (Nat.le_of_ble_eq_true rfl) d_M_followed_180 ⟨by decide, by decide⟩ ⟨by decide, by decide⟩) hS (fun H locs hP hD hS => ?_)
          have hP : va_P D hq_cl ([hq_o8 h (nI n) kd ru ya (nI sz) ta la (nI rg) (nI so) (hq_z bg) (nI nc) lfa rta lb wo (nI ft) fha fva fla (nI sp) (nI tc) tha tva wa sa ca va tt ld pt pw (nI rc) ra wn, hq_al wa (G 1) 96 wt, hq_al sa (G 1) 96 (vp_updL su a (hq_s1M (su a) d)), hq_al ca (G 1) 96 (vp_updL sc a (hq_m1c (wt a) (su a) (sc a) d))] ++ Z) H := hP
          have hD : va_D A ([hq_o8 h (nI n) kd ru ya (nI sz) ta la (nI rg) (nI so) (hq_z bg) (nI nc) lfa rta lb wo (nI ft) fha fva fla (nI sp) (nI tc) tha tva wa sa ca va tt ld pt pw (nI rc) ra wn, hq_al wa (G 1) 96 wt, hq_al sa (G 1) 96 (vp_updL su a (hq_s1M (su a) d)), hq_al ca (G 1) 96 (vp_updL sc a (hq_m1c (wt a) (su a) (sc a) d))] ++ Z) := hD
          refine hq_last (j := a) hx hb hK hP hD hS 1 rfl (by omega) (by omega) d_M_followed_183 (fun H locs hP hD hS => ?_)
          have hP : va_P D hq_cl ([hq_o8 h (nI n) kd ru ya (nI sz) ta la (nI rg) (nI so) (hq_z bg) (nI nc) lfa rta lb wo (nI ft) fha fva fla (nI sp) (nI tc) tha tva wa sa ca va tt ld pt pw (nI rc) ra wn, hq_al wa (G 1) 96 (vp_updL wt a (f_M_clip (((-5000) * ((hq_m1c (wt a) (su a) (sc a) d) + 10)) / (100 + (hq_root (hq_s1M (su a) d)))) 100000000)), hq_al sa (G 1) 96 (vp_updL su a (hq_s1M (su a) d)), hq_al ca (G 1) 96 (vp_updL sc a (hq_m1c (wt a) (su a) (sc a) d))] ++ Z) H := hP
          have hD : va_D A ([hq_o8 h (nI n) kd ru ya (nI sz) ta la (nI rg) (nI so) (hq_z bg) (nI nc) lfa rta lb wo (nI ft) fha fva fla (nI sp) (nI tc) tha tva wa sa ca va tt ld pt pw (nI rc) ra wn, hq_al wa (G 1) 96 (vp_updL wt a (f_M_clip (((-5000) * ((hq_m1c (wt a) (su a) (sc a) d) + 10)) / (100 + (hq_root (hq_s1M (su a) d)))) 100000000)), hq_al sa (G 1) 96 (vp_updL su a (hq_s1M (su a) d)), hq_al ca (G 1) 96 (vp_updL sc a (hq_m1c (wt a) (su a) (sc a) d))] ++ Z) := hD
          have e9_0 : (vp_updL wt a (hq_m1w (wt a) (su a) (sc a) d)) = (vp_updL wt a (f_M_clip (((-5000) * ((hq_m1c (wt a) (su a) (sc a) d) + 10)) / (100 + (hq_root (hq_s1M (su a) d)))) 100000000)) := by rw [hq_m1w, if_pos c89, if_neg c127, if_pos c140]
          have hP : va_P D hq_cl ([hq_o8 h (nI n) kd ru ya (nI sz) ta la (nI rg) (nI so) (hq_z bg) (nI nc) lfa rta lb wo (nI ft) fha fva fla (nI sp) (nI tc) tha tva wa sa ca va tt ld pt pw (nI rc) ra wn, hq_al wa (G 1) 96 (vp_updL wt a (hq_m1w (wt a) (su a) (sc a) d)), hq_al sa (G 1) 96 (vp_updL su a (hq_s1M (su a) d)), hq_al ca (G 1) 96 (vp_updL sc a (hq_m1c (wt a) (su a) (sc a) d))] ++ Z) H := by rw [e9_0]; exact hP
          have hD : va_D A ([hq_o8 h (nI n) kd ru ya (nI sz) ta la (nI rg) (nI so) (hq_z bg) (nI nc) lfa rta lb wo (nI ft) fha fva fla (nI sp) (nI tc) tha tva wa sa ca va tt ld pt pw (nI rc) ra wn, hq_al wa (G 1) 96 (vp_updL wt a (hq_m1w (wt a) (su a) (sc a) d)), hq_al sa (G 1) 96 (vp_updL su a (hq_s1M (su a) d)), hq_al ca (G 1) 96 (vp_updL sc a (hq_m1c (wt a) (su a) (sc a) d))] ++ Z) := by rw [e9_0]; exact hD
          exact hret () H locs 184 ls d_M_followed_184 (trivial) hP hD hS
        · exact absurd (by decide) c157
      · -- 140 not taken
        have c140 : ¬ 10 < (hq_m1c (wt a) (su a) (sc a) d) := fun h => c140 ((lg_cmp_gt (hq_m1c (wt a) (su a) (sc a) d) 10).mpr h)
        refine lv_iconst (v := 1) hx hb d_M_followed_143 (by decide) ?_
        refine lv_goto (tgt := 148) hx hb d_M_followed_144 rfl ?_
        refine lv_istore (nL := 11) (lv' := [(10, .int 1), (8, .long ((hq_m1c (wt a) (su a) (sc a) d) + 10)), (6, .long (hq_root (hq_s1M (su a) d))), (4, .long (hq_root (su a))), (0, .ref h), (1, .int (nI a)), (2, .long d)]) hx hb d_M_followed_148 hl (by decide) rfl (fun ls hl => ?_)
        refine lv_aload_n hx hb d_M_followed_150 rfl (lv_at hl 4 rfl) ?_
        refine va_get (D := D) (ci := 8) (v := .ref wa) (C := R_M) (T := F_M) (N := 34) hx hb hts uw_M hown hK hP 0 rfl rfl 23 (by decide) (hts _ fl_M_40) (fun _ h9 => h9) rfl d_M_followed_151 ?_
        refine lv_iload_n hx hb d_M_followed_154 rfl (lv_at hl 5 rfl) ?_
        refine lv_iload hx hb d_M_followed_155 (lv_at hl 0 rfl) ?_
        refine lv_if_eq (tgt := 164) hx hb d_M_followed_157 rfl (fun c157 => ?_) (fun c157 => ?_)
        · exact absurd c157 (by decide)
        · skip
          refine lv_lconst (v := 0) hx hb d_M_followed_160 (by decide) ?_
          refine lv_goto (tgt := 183) hx hb d_M_followed_161 rfl ?_
          refine hq_last (j := a) hx hb hK hP hD hS 1 rfl (by omega) (by omega) d_M_followed_183 (fun H locs hP hD hS => ?_)
          have hP : va_P D hq_cl ([hq_o8 h (nI n) kd ru ya (nI sz) ta la (nI rg) (nI so) (hq_z bg) (nI nc) lfa rta lb wo (nI ft) fha fva fla (nI sp) (nI tc) tha tva wa sa ca va tt ld pt pw (nI rc) ra wn, hq_al wa (G 1) 96 (vp_updL wt a 0), hq_al sa (G 1) 96 (vp_updL su a (hq_s1M (su a) d)), hq_al ca (G 1) 96 (vp_updL sc a (hq_m1c (wt a) (su a) (sc a) d))] ++ Z) H := hP
          have hD : va_D A ([hq_o8 h (nI n) kd ru ya (nI sz) ta la (nI rg) (nI so) (hq_z bg) (nI nc) lfa rta lb wo (nI ft) fha fva fla (nI sp) (nI tc) tha tva wa sa ca va tt ld pt pw (nI rc) ra wn, hq_al wa (G 1) 96 (vp_updL wt a 0), hq_al sa (G 1) 96 (vp_updL su a (hq_s1M (su a) d)), hq_al ca (G 1) 96 (vp_updL sc a (hq_m1c (wt a) (su a) (sc a) d))] ++ Z) := hD
          have e9_0 : (vp_updL wt a (hq_m1w (wt a) (su a) (sc a) d)) = (vp_updL wt a 0) := by rw [hq_m1w, if_pos c89, if_neg c127, if_neg c140]
          have hP : va_P D hq_cl ([hq_o8 h (nI n) kd ru ya (nI sz) ta la (nI rg) (nI so) (hq_z bg) (nI nc) lfa rta lb wo (nI ft) fha fva fla (nI sp) (nI tc) tha tva wa sa ca va tt ld pt pw (nI rc) ra wn, hq_al wa (G 1) 96 (vp_updL wt a (hq_m1w (wt a) (su a) (sc a) d)), hq_al sa (G 1) 96 (vp_updL su a (hq_s1M (su a) d)), hq_al ca (G 1) 96 (vp_updL sc a (hq_m1c (wt a) (su a) (sc a) d))] ++ Z) H := by rw [e9_0]; exact hP
          have hD : va_D A ([hq_o8 h (nI n) kd ru ya (nI sz) ta la (nI rg) (nI so) (hq_z bg) (nI nc) lfa rta lb wo (nI ft) fha fva fla (nI sp) (nI tc) tha tva wa sa ca va tt ld pt pw (nI rc) ra wn, hq_al wa (G 1) 96 (vp_updL wt a (hq_m1w (wt a) (su a) (sc a) d)), hq_al sa (G 1) 96 (vp_updL su a (hq_s1M (su a) d)), hq_al ca (G 1) 96 (vp_updL sc a (hq_m1c (wt a) (su a) (sc a) d))] ++ Z) := by rw [e9_0]; exact hD
          exact hret () H locs 184 ls d_M_followed_184 (trivial) hP hD hS
  · -- 89 not taken
    have c89 : ¬ (hq_m1c (wt a) (su a) (sc a) d) ≤ 0 := fun h => c89 ((lg_cmp_le (hq_m1c (wt a) (su a) (sc a) d) 0).mpr h)
    refine lv_aload_n hx hb d_M_followed_92 rfl (lv_at hl 2 rfl) ?_
    refine va_get (D := D) (ci := 8) (v := .ref ca) (C := R_M) (T := F_M) (N := 34) hx hb hts uw_M hown hK hP 0 rfl rfl 25 (by decide) (hts _ fl_M_47) (fun _ h9 => h9) rfl d_M_followed_93 ?_
    refine lv_iload_n hx hb d_M_followed_96 rfl (lv_at hl 3 rfl) ?_
    refine hq_lald (j := a) hx hb hK hP 3 rfl (by omega) (by omega) d_M_followed_97 ?_
    refine hq_topl (x' := hq_m1c (wt a) (su a) (sc a) d) (pk_uLs) ?_
    refine lv_ldc2 (v := 10) hx hb hown (hts _ kl_M_202) d_M_followed_98 ?_
    refine lv_lsub hx hb d_M_followed_101 ?_
    refine lv_goto (tgt := 115) hx hb d_M_followed_102 rfl ?_
    refine lv_lstore (nL := 11) (lv' := [(8, .long ((hq_m1c (wt a) (su a) (sc a) d) - 10)), (6, .long (hq_root (hq_s1M (su a) d))), (4, .long (hq_root (su a))), (0, .ref h), (1, .int (nI a)), (2, .long d)]) hx hb d_M_followed_115 hl (by decide) rfl (fun ls hl => ?_)
    refine lv_aload_n hx hb d_M_followed_117 rfl (lv_at hl 3 rfl) ?_
    refine va_get (D := D) (ci := 8) (v := .ref ca) (C := R_M) (T := F_M) (N := 34) hx hb hts uw_M hown hK hP 0 rfl rfl 25 (by decide) (hts _ fl_M_47) (fun _ h9 => h9) rfl d_M_followed_118 ?_
    refine lv_iload_n hx hb d_M_followed_121 rfl (lv_at hl 4 rfl) ?_
    refine hq_lald (j := a) hx hb hK hP 3 rfl (by omega) (by omega) d_M_followed_122 ?_
    refine hq_topl (x' := hq_m1c (wt a) (su a) (sc a) d) (pk_uLs) ?_
    refine lv_ldc2 (v := (-10)) hx hb hown (hts _ kl_M_204) d_M_followed_123 ?_
    refine W.lcmp hx hb d_M_followed_126 ?_
    refine lv_if_lt (tgt := 147) hx hb d_M_followed_127 rfl (fun c127 => ?_) (fun c127 => ?_)
    · -- 127 taken
      have c127 : (hq_m1c (wt a) (su a) (sc a) d) < (-10) := (lg_cmp_lt (hq_m1c (wt a) (su a) (sc a) d) (-10)).mp c127
      refine lv_iconst (v := 0) hx hb d_M_followed_147 (by decide) ?_
      refine lv_istore (nL := 11) (lv' := [(10, .int 0), (8, .long ((hq_m1c (wt a) (su a) (sc a) d) - 10)), (6, .long (hq_root (hq_s1M (su a) d))), (4, .long (hq_root (su a))), (0, .ref h), (1, .int (nI a)), (2, .long d)]) hx hb d_M_followed_148 hl (by decide) rfl (fun ls hl => ?_)
      refine lv_aload_n hx hb d_M_followed_150 rfl (lv_at hl 4 rfl) ?_
      refine va_get (D := D) (ci := 8) (v := .ref wa) (C := R_M) (T := F_M) (N := 34) hx hb hts uw_M hown hK hP 0 rfl rfl 23 (by decide) (hts _ fl_M_40) (fun _ h9 => h9) rfl d_M_followed_151 ?_
      refine lv_iload_n hx hb d_M_followed_154 rfl (lv_at hl 5 rfl) ?_
      refine lv_iload hx hb d_M_followed_155 (lv_at hl 0 rfl) ?_
      refine lv_if_eq (tgt := 164) hx hb d_M_followed_157 rfl (fun c157 => ?_) (fun c157 => ?_)
      · skip
        refine lv_ldc2 (v := (-5000)) hx hb hown (hts _ kl_M_206) d_M_followed_164 ?_
        refine lv_lload hx hb d_M_followed_167 (lv_at hl 1 rfl) ?_
        refine lv_lmul hx hb d_M_followed_169 ?_
        refine lv_ldc2 (v := 100) hx hb hown (hts _ kl_M_128) d_M_followed_170 ?_
        refine lv_lload hx hb d_M_followed_173 (lv_at hl 2 rfl) ?_
        refine lv_ladd hx hb d_M_followed_175 ?_
        refine lv_ldiv hx hb d_M_followed_176 (hq_den1_ne (hq_root_in2 (hq_s1M_in hs0 hs1 hd0 hd1).2).1 (hq_root_in2 (hq_s1M_in hs0 hs1 hd0 hd1).2).2) ?_
        refine lv_ldc2 (v := 100000000) hx hb hown (hts _ kl_M_196) d_M_followed_177 ?_
        have hPc : va_P D hq_cl ([] ++ ([hq_o8 h (nI n) kd ru ya (nI sz) ta la (nI rg) (nI so) (hq_z bg) (nI nc) lfa rta lb wo (nI ft) fha fva fla (nI sp) (nI tc) tha tva wa sa ca va tt ld pt pw (nI rc) ra wn, hq_al wa (G 1) 96 wt, hq_al sa (G 1) 96 (vp_updL su a (hq_s1M (su a) d)), hq_al ca (G 1) 96 (vp_updL sc a (hq_m1c (wt a) (su a) (sc a) d))] ++ Z)) H := hP
        have hDc : va_D A ([] ++ ([hq_o8 h (nI n) kd ru ya (nI sz) ta la (nI rg) (nI so) (hq_z bg) (nI nc) lfa rta lb wo (nI ft) fha fva fla (nI sp) (nI tc) tha tva wa sa ca va tt ld pt pw (nI rc) ra wn, hq_al wa (G 1) 96 wt, hq_al sa (G 1) 96 (vp_updL su a (hq_s1M (su a) d)), hq_al ca (G 1) 96 (vp_updL sc a (hq_m1c (wt a) (su a) (sc a) d))] ++ Z)) := hD
        refine hq_lF (hq_rS (As := [.long (((-5000) * ((hq_m1c (wt a) (su a) (sc a) d) - 10)) / (100 + (hq_root (hq_s1M (su a) d)))), .long 100000000]) (rest := [.int (nI a), .ref wa]) hx hb hml hown hts (c_M_clip l D G A ([hq_o8 h (nI n) kd ru ya (nI sz) ta la (nI rg) (nI so) (hq_z bg) (nI nc) lfa rta lb wo (nI ft) fha fva fla (nI sp) (nI tc) tha tva wa sa ca va tt ld pt pw (nI rc) ra wn, hq_al wa (G 1) 96 wt, hq_al sa (G 1) 96 (vp_updL su a (hq_s1M (su a) d)), hq_al ca (G 1) 96 (vp_updL sc a (hq_m1c (wt a) (su a) (sc a) d))] ++ Z) (((-5000) * ((hq_m1c (wt a) (su a) (sc a) d) - 10)) / (100 + (hq_root (hq_s1M (su a) d)))) 100000000) yy_M_clip lk_M_132 hA hK hN hS hPc hDc rfl hl.1 rfl (Nat.le_of_ble_eq_true rfl) d_M_followed_180 ⟨by decide, by decide⟩ ⟨by decide, by decide⟩) hS (fun H locs hP hD hS => ?_)
        have hP : va_P D hq_cl ([hq_o8 h (nI n) kd ru ya (nI sz) ta la (nI rg) (nI so) (hq_z bg) (nI nc) lfa rta lb wo (nI ft) fha fva fla (nI sp) (nI tc) tha tva wa sa ca va tt ld pt pw (nI rc) ra wn, hq_al wa (G 1) 96 wt, hq_al sa (G 1) 96 (vp_updL su a (hq_s1M (su a) d)), hq_al ca (G 1) 96 (vp_updL sc a (hq_m1c (wt a) (su a) (sc a) d))] ++ Z) H := hP
        have hD : va_D A ([hq_o8 h (nI n) kd ru ya (nI sz) ta la (nI rg) (nI so) (hq_z bg) (nI nc) lfa rta lb wo (nI ft) fha fva fla (nI sp) (nI tc) tha tva wa sa ca va tt ld pt pw (nI rc) ra wn, hq_al wa (G 1) 96 wt, hq_al sa (G 1) 96 (vp_updL su a (hq_s1M (su a) d)), hq_al ca (G 1) 96 (vp_updL sc a (hq_m1c (wt a) (su a) (sc a) d))] ++ Z) := hD
        refine hq_last (j := a) hx hb hK hP hD hS 1 rfl (by omega) (by omega) d_M_followed_183 (fun H locs hP hD hS => ?_)
        have hP : va_P D hq_cl ([hq_o8 h (nI n) kd ru ya (nI sz) ta la (nI rg) (nI so) (hq_z bg) (nI nc) lfa rta lb wo (nI ft) fha fva fla (nI sp) (nI tc) tha tva wa sa ca va tt ld pt pw (nI rc) ra wn, hq_al wa (G 1) 96 (vp_updL wt a (f_M_clip (((-5000) * ((hq_m1c (wt a) (su a) (sc a) d) - 10)) / (100 + (hq_root (hq_s1M (su a) d)))) 100000000)), hq_al sa (G 1) 96 (vp_updL su a (hq_s1M (su a) d)), hq_al ca (G 1) 96 (vp_updL sc a (hq_m1c (wt a) (su a) (sc a) d))] ++ Z) H := hP
        have hD : va_D A ([hq_o8 h (nI n) kd ru ya (nI sz) ta la (nI rg) (nI so) (hq_z bg) (nI nc) lfa rta lb wo (nI ft) fha fva fla (nI sp) (nI tc) tha tva wa sa ca va tt ld pt pw (nI rc) ra wn, hq_al wa (G 1) 96 (vp_updL wt a (f_M_clip (((-5000) * ((hq_m1c (wt a) (su a) (sc a) d) - 10)) / (100 + (hq_root (hq_s1M (su a) d)))) 100000000)), hq_al sa (G 1) 96 (vp_updL su a (hq_s1M (su a) d)), hq_al ca (G 1) 96 (vp_updL sc a (hq_m1c (wt a) (su a) (sc a) d))] ++ Z) := hD
        have e9_0 : (vp_updL wt a (hq_m1w (wt a) (su a) (sc a) d)) = (vp_updL wt a (f_M_clip (((-5000) * ((hq_m1c (wt a) (su a) (sc a) d) - 10)) / (100 + (hq_root (hq_s1M (su a) d)))) 100000000)) := by rw [hq_m1w, if_neg c89, if_pos c127]
        have hP : va_P D hq_cl ([hq_o8 h (nI n) kd ru ya (nI sz) ta la (nI rg) (nI so) (hq_z bg) (nI nc) lfa rta lb wo (nI ft) fha fva fla (nI sp) (nI tc) tha tva wa sa ca va tt ld pt pw (nI rc) ra wn, hq_al wa (G 1) 96 (vp_updL wt a (hq_m1w (wt a) (su a) (sc a) d)), hq_al sa (G 1) 96 (vp_updL su a (hq_s1M (su a) d)), hq_al ca (G 1) 96 (vp_updL sc a (hq_m1c (wt a) (su a) (sc a) d))] ++ Z) H := by rw [e9_0]; exact hP
        have hD : va_D A ([hq_o8 h (nI n) kd ru ya (nI sz) ta la (nI rg) (nI so) (hq_z bg) (nI nc) lfa rta lb wo (nI ft) fha fva fla (nI sp) (nI tc) tha tva wa sa ca va tt ld pt pw (nI rc) ra wn, hq_al wa (G 1) 96 (vp_updL wt a (hq_m1w (wt a) (su a) (sc a) d)), hq_al sa (G 1) 96 (vp_updL su a (hq_s1M (su a) d)), hq_al ca (G 1) 96 (vp_updL sc a (hq_m1c (wt a) (su a) (sc a) d))] ++ Z) := by rw [e9_0]; exact hD
        exact hret () H locs 184 ls d_M_followed_184 (trivial) hP hD hS
      · exact absurd (by decide) c157
    · -- 127 not taken
      have c127 : ¬ (hq_m1c (wt a) (su a) (sc a) d) < (-10) := fun h => c127 ((lg_cmp_lt (hq_m1c (wt a) (su a) (sc a) d) (-10)).mpr h)
      refine lv_aload_n hx hb d_M_followed_130 rfl (lv_at hl 3 rfl) ?_
      refine va_get (D := D) (ci := 8) (v := .ref ca) (C := R_M) (T := F_M) (N := 34) hx hb hts uw_M hown hK hP 0 rfl rfl 25 (by decide) (hts _ fl_M_47) (fun _ h9 => h9) rfl d_M_followed_131 ?_
      refine lv_iload_n hx hb d_M_followed_134 rfl (lv_at hl 4 rfl) ?_
      refine hq_lald (j := a) hx hb hK hP 3 rfl (by omega) (by omega) d_M_followed_135 ?_
      refine hq_topl (x' := hq_m1c (wt a) (su a) (sc a) d) (pk_uLs) ?_
      refine lv_ldc2 (v := 10) hx hb hown (hts _ kl_M_202) d_M_followed_136 ?_
      refine W.lcmp hx hb d_M_followed_139 ?_
      refine lv_if_gt (tgt := 147) hx hb d_M_followed_140 rfl (fun c140 => ?_) (fun c140 => ?_)
      · -- 140 taken
        have c140 : 10 < (hq_m1c (wt a) (su a) (sc a) d) := (lg_cmp_gt (hq_m1c (wt a) (su a) (sc a) d) 10).mp c140
        refine lv_iconst (v := 0) hx hb d_M_followed_147 (by decide) ?_
        refine lv_istore (nL := 11) (lv' := [(10, .int 0), (8, .long ((hq_m1c (wt a) (su a) (sc a) d) - 10)), (6, .long (hq_root (hq_s1M (su a) d))), (4, .long (hq_root (su a))), (0, .ref h), (1, .int (nI a)), (2, .long d)]) hx hb d_M_followed_148 hl (by decide) rfl (fun ls hl => ?_)
        refine lv_aload_n hx hb d_M_followed_150 rfl (lv_at hl 4 rfl) ?_
        refine va_get (D := D) (ci := 8) (v := .ref wa) (C := R_M) (T := F_M) (N := 34) hx hb hts uw_M hown hK hP 0 rfl rfl 23 (by decide) (hts _ fl_M_40) (fun _ h9 => h9) rfl d_M_followed_151 ?_
        refine lv_iload_n hx hb d_M_followed_154 rfl (lv_at hl 5 rfl) ?_
        refine lv_iload hx hb d_M_followed_155 (lv_at hl 0 rfl) ?_
        refine lv_if_eq (tgt := 164) hx hb d_M_followed_157 rfl (fun c157 => ?_) (fun c157 => ?_)
        · skip
          refine lv_ldc2 (v := (-5000)) hx hb hown (hts _ kl_M_206) d_M_followed_164 ?_
          refine lv_lload hx hb d_M_followed_167 (lv_at hl 1 rfl) ?_
          refine lv_lmul hx hb d_M_followed_169 ?_
          refine lv_ldc2 (v := 100) hx hb hown (hts _ kl_M_128) d_M_followed_170 ?_
          refine lv_lload hx hb d_M_followed_173 (lv_at hl 2 rfl) ?_
          refine lv_ladd hx hb d_M_followed_175 ?_
          refine lv_ldiv hx hb d_M_followed_176 (hq_den1_ne (hq_root_in2 (hq_s1M_in hs0 hs1 hd0 hd1).2).1 (hq_root_in2 (hq_s1M_in hs0 hs1 hd0 hd1).2).2) ?_
          refine lv_ldc2 (v := 100000000) hx hb hown (hts _ kl_M_196) d_M_followed_177 ?_
          have hPc : va_P D hq_cl ([] ++ ([hq_o8 h (nI n) kd ru ya (nI sz) ta la (nI rg) (nI so) (hq_z bg) (nI nc) lfa rta lb wo (nI ft) fha fva fla (nI sp) (nI tc) tha tva wa sa ca va tt ld pt pw (nI rc) ra wn, hq_al wa (G 1) 96 wt, hq_al sa (G 1) 96 (vp_updL su a (hq_s1M (su a) d)), hq_al ca (G 1) 96 (vp_updL sc a (hq_m1c (wt a) (su a) (sc a) d))] ++ Z)) H := hP
          have hDc : va_D A ([] ++ ([hq_o8 h (nI n) kd ru ya (nI sz) ta la (nI rg) (nI so) (hq_z bg) (nI nc) lfa rta lb wo (nI ft) fha fva fla (nI sp) (nI tc) tha tva wa sa ca va tt ld pt pw (nI rc) ra wn, hq_al wa (G 1) 96 wt, hq_al sa (G 1) 96 (vp_updL su a (hq_s1M (su a) d)), hq_al ca (G 1) 96 (vp_updL sc a (hq_m1c (wt a) (su a) (sc a) d))] ++ Z)) := hD
          refine hq_lF (hq_rS (As := [.long (((-5000) * ((hq_m1c (wt a) (su a) (sc a) d) - 10)) / (100 + (hq_root (hq_s1M (su a) d)))), .long 100000000]) (rest := [.int (nI a), .ref wa]) hx hb hml hown hts (c_M_clip l D G A ([hq_o8 h (nI n) kd ru ya (nI sz) ta la (nI rg) (nI so) (hq_z bg) (nI nc) lfa rta lb wo (nI ft) fha fva fla (nI sp) (nI tc) tha tva wa sa ca va tt ld pt pw (nI rc) ra wn, hq_al wa (G 1) 96 wt, hq_al sa (G 1) 96 (vp_updL su a (hq_s1M (su a) d)), hq_al ca (G 1) 96 (vp_updL sc a (hq_m1c (wt a) (su a) (sc a) d))] ++ Z) (((-5000) * ((hq_m1c (wt a) (su a) (sc a) d) - 10)) / (100 + (hq_root (hq_s1M (su a) d)))) 100000000) yy_M_clip lk_M_132 hA hK hN hS hPc hDc rfl hl.1 rfl (Nat.le_of_ble_eq_true rfl) d_M_followed_180 ⟨by decide, by decide⟩ ⟨by decide, by decide⟩) hS (fun H locs hP hD hS => ?_)
          have hP : va_P D hq_cl ([hq_o8 h (nI n) kd ru ya (nI sz) ta la (nI rg) (nI so) (hq_z bg) (nI nc) lfa rta lb wo (nI ft) fha fva fla (nI sp) (nI tc) tha tva wa sa ca va tt ld pt pw (nI rc) ra wn, hq_al wa (G 1) 96 wt, hq_al sa (G 1) 96 (vp_updL su a (hq_s1M (su a) d)), hq_al ca (G 1) 96 (vp_updL sc a (hq_m1c (wt a) (su a) (sc a) d))] ++ Z) H := hP
          have hD : va_D A ([hq_o8 h (nI n) kd ru ya (nI sz) ta la (nI rg) (nI so) (hq_z bg) (nI nc) lfa rta lb wo (nI ft) fha fva fla (nI sp) (nI tc) tha tva wa sa ca va tt ld pt pw (nI rc) ra wn, hq_al wa (G 1) 96 wt, hq_al sa (G 1) 96 (vp_updL su a (hq_s1M (su a) d)), hq_al ca (G 1) 96 (vp_updL sc a (hq_m1c (wt a) (su a) (sc a) d))] ++ Z) := hD
          refine hq_last (j := a) hx hb hK hP hD hS 1 rfl (by omega) (by omega) d_M_followed_183 (fun H locs hP hD hS => ?_)
          have hP : va_P D hq_cl ([hq_o8 h (nI n) kd ru ya (nI sz) ta la (nI rg) (nI so) (hq_z bg) (nI nc) lfa rta lb wo (nI ft) fha fva fla (nI sp) (nI tc) tha tva wa sa ca va tt ld pt pw (nI rc) ra wn, hq_al wa (G 1) 96 (vp_updL wt a (f_M_clip (((-5000) * ((hq_m1c (wt a) (su a) (sc a) d) - 10)) / (100 + (hq_root (hq_s1M (su a) d)))) 100000000)), hq_al sa (G 1) 96 (vp_updL su a (hq_s1M (su a) d)), hq_al ca (G 1) 96 (vp_updL sc a (hq_m1c (wt a) (su a) (sc a) d))] ++ Z) H := hP
          have hD : va_D A ([hq_o8 h (nI n) kd ru ya (nI sz) ta la (nI rg) (nI so) (hq_z bg) (nI nc) lfa rta lb wo (nI ft) fha fva fla (nI sp) (nI tc) tha tva wa sa ca va tt ld pt pw (nI rc) ra wn, hq_al wa (G 1) 96 (vp_updL wt a (f_M_clip (((-5000) * ((hq_m1c (wt a) (su a) (sc a) d) - 10)) / (100 + (hq_root (hq_s1M (su a) d)))) 100000000)), hq_al sa (G 1) 96 (vp_updL su a (hq_s1M (su a) d)), hq_al ca (G 1) 96 (vp_updL sc a (hq_m1c (wt a) (su a) (sc a) d))] ++ Z) := hD
          have e9_0 : (vp_updL wt a (hq_m1w (wt a) (su a) (sc a) d)) = (vp_updL wt a (f_M_clip (((-5000) * ((hq_m1c (wt a) (su a) (sc a) d) - 10)) / (100 + (hq_root (hq_s1M (su a) d)))) 100000000)) := by rw [hq_m1w, if_neg c89, if_neg c127, if_pos c140]
          have hP : va_P D hq_cl ([hq_o8 h (nI n) kd ru ya (nI sz) ta la (nI rg) (nI so) (hq_z bg) (nI nc) lfa rta lb wo (nI ft) fha fva fla (nI sp) (nI tc) tha tva wa sa ca va tt ld pt pw (nI rc) ra wn, hq_al wa (G 1) 96 (vp_updL wt a (hq_m1w (wt a) (su a) (sc a) d)), hq_al sa (G 1) 96 (vp_updL su a (hq_s1M (su a) d)), hq_al ca (G 1) 96 (vp_updL sc a (hq_m1c (wt a) (su a) (sc a) d))] ++ Z) H := by rw [e9_0]; exact hP
          have hD : va_D A ([hq_o8 h (nI n) kd ru ya (nI sz) ta la (nI rg) (nI so) (hq_z bg) (nI nc) lfa rta lb wo (nI ft) fha fva fla (nI sp) (nI tc) tha tva wa sa ca va tt ld pt pw (nI rc) ra wn, hq_al wa (G 1) 96 (vp_updL wt a (hq_m1w (wt a) (su a) (sc a) d)), hq_al sa (G 1) 96 (vp_updL su a (hq_s1M (su a) d)), hq_al ca (G 1) 96 (vp_updL sc a (hq_m1c (wt a) (su a) (sc a) d))] ++ Z) := by rw [e9_0]; exact hD
          exact hret () H locs 184 ls d_M_followed_184 (trivial) hP hD hS
        · exact absurd (by decide) c157
      · -- 140 not taken
        have c140 : ¬ 10 < (hq_m1c (wt a) (su a) (sc a) d) := fun h => c140 ((lg_cmp_gt (hq_m1c (wt a) (su a) (sc a) d) 10).mpr h)
        refine lv_iconst (v := 1) hx hb d_M_followed_143 (by decide) ?_
        refine lv_goto (tgt := 148) hx hb d_M_followed_144 rfl ?_
        refine lv_istore (nL := 11) (lv' := [(10, .int 1), (8, .long ((hq_m1c (wt a) (su a) (sc a) d) - 10)), (6, .long (hq_root (hq_s1M (su a) d))), (4, .long (hq_root (su a))), (0, .ref h), (1, .int (nI a)), (2, .long d)]) hx hb d_M_followed_148 hl (by decide) rfl (fun ls hl => ?_)
        refine lv_aload_n hx hb d_M_followed_150 rfl (lv_at hl 4 rfl) ?_
        refine va_get (D := D) (ci := 8) (v := .ref wa) (C := R_M) (T := F_M) (N := 34) hx hb hts uw_M hown hK hP 0 rfl rfl 23 (by decide) (hts _ fl_M_40) (fun _ h9 => h9) rfl d_M_followed_151 ?_
        refine lv_iload_n hx hb d_M_followed_154 rfl (lv_at hl 5 rfl) ?_
        refine lv_iload hx hb d_M_followed_155 (lv_at hl 0 rfl) ?_
        refine lv_if_eq (tgt := 164) hx hb d_M_followed_157 rfl (fun c157 => ?_) (fun c157 => ?_)
        · exact absurd c157 (by decide)
        · skip
          refine lv_lconst (v := 0) hx hb d_M_followed_160 (by decide) ?_
          refine lv_goto (tgt := 183) hx hb d_M_followed_161 rfl ?_
          refine hq_last (j := a) hx hb hK hP hD hS 1 rfl (by omega) (by omega) d_M_followed_183 (fun H locs hP hD hS => ?_)
          have hP : va_P D hq_cl ([hq_o8 h (nI n) kd ru ya (nI sz) ta la (nI rg) (nI so) (hq_z bg) (nI nc) lfa rta lb wo (nI ft) fha fva fla (nI sp) (nI tc) tha tva wa sa ca va tt ld pt pw (nI rc) ra wn, hq_al wa (G 1) 96 (vp_updL wt a 0), hq_al sa (G 1) 96 (vp_updL su a (hq_s1M (su a) d)), hq_al ca (G 1) 96 (vp_updL sc a (hq_m1c (wt a) (su a) (sc a) d))] ++ Z) H := hP
          have hD : va_D A ([hq_o8 h (nI n) kd ru ya (nI sz) ta la (nI rg) (nI so) (hq_z bg) (nI nc) lfa rta lb wo (nI ft) fha fva fla (nI sp) (nI tc) tha tva wa sa ca va tt ld pt pw (nI rc) ra wn, hq_al wa (G 1) 96 (vp_updL wt a 0), hq_al sa (G 1) 96 (vp_updL su a (hq_s1M (su a) d)), hq_al ca (G 1) 96 (vp_updL sc a (hq_m1c (wt a) (su a) (sc a) d))] ++ Z) := hD
          have e9_0 : (vp_updL wt a (hq_m1w (wt a) (su a) (sc a) d)) = (vp_updL wt a 0) := by rw [hq_m1w, if_neg c89, if_neg c127, if_neg c140]
          have hP : va_P D hq_cl ([hq_o8 h (nI n) kd ru ya (nI sz) ta la (nI rg) (nI so) (hq_z bg) (nI nc) lfa rta lb wo (nI ft) fha fva fla (nI sp) (nI tc) tha tva wa sa ca va tt ld pt pw (nI rc) ra wn, hq_al wa (G 1) 96 (vp_updL wt a (hq_m1w (wt a) (su a) (sc a) d)), hq_al sa (G 1) 96 (vp_updL su a (hq_s1M (su a) d)), hq_al ca (G 1) 96 (vp_updL sc a (hq_m1c (wt a) (su a) (sc a) d))] ++ Z) H := by rw [e9_0]; exact hP
          have hD : va_D A ([hq_o8 h (nI n) kd ru ya (nI sz) ta la (nI rg) (nI so) (hq_z bg) (nI nc) lfa rta lb wo (nI ft) fha fva fla (nI sp) (nI tc) tha tva wa sa ca va tt ld pt pw (nI rc) ra wn, hq_al wa (G 1) 96 (vp_updL wt a (hq_m1w (wt a) (su a) (sc a) d)), hq_al sa (G 1) 96 (vp_updL su a (hq_s1M (su a) d)), hq_al ca (G 1) 96 (vp_updL sc a (hq_m1c (wt a) (su a) (sc a) d))] ++ Z) := by rw [e9_0]; exact hD
          exact hret () H locs 184 ls d_M_followed_184 (trivial) hP hD hS
