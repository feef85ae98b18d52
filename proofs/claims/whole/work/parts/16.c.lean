theorem d_Terms_addPairs_0 : decode b_Terms_addPairs 0 = .ok (.aload_n 1, 1) := by decide +kernel
theorem d_Terms_addPairs_1 : decode b_Terms_addPairs 1 = .ok (.getfield 48, 3) := by decide +kernel
theorem d_Terms_addPairs_4 : decode b_Terms_addPairs 4 = .ok (.iload_n 2, 1) := by decide +kernel
theorem d_Terms_addPairs_5 : decode b_Terms_addPairs 5 = .ok (.caload, 1) := by decide +kernel
theorem d_Terms_addPairs_6 : decode b_Terms_addPairs 6 = .ok (.iload_n 3, 1) := by decide +kernel
theorem d_Terms_addPairs_7 : decode b_Terms_addPairs 7 = .ok (.if_icmp .ne (7), 3) := by decide +kernel
theorem d_Terms_addPairs_10 : decode b_Terms_addPairs 10 = .ok (.iload_n 2, 1) := by decide +kernel
theorem d_Terms_addPairs_11 : decode b_Terms_addPairs 11 = .ok (.goto (4), 3) := by decide +kernel
theorem d_Terms_addPairs_14 : decode b_Terms_addPairs 14 = .ok (.iconst 0, 1) := by decide +kernel
theorem d_Terms_addPairs_15 : decode b_Terms_addPairs 15 = .ok (.istore 4, 2) := by decide +kernel
theorem d_Terms_addPairs_17 : decode b_Terms_addPairs 17 = .ok (.iload 4, 2) := by decide +kernel
theorem d_Terms_addPairs_19 : decode b_Terms_addPairs 19 = .ok (.istore 5, 2) := by decide +kernel
theorem d_Terms_addPairs_21 : decode b_Terms_addPairs 21 = .ok (.iload 5, 2) := by decide +kernel
theorem d_Terms_addPairs_23 : decode b_Terms_addPairs 23 = .ok (.aload_n 1, 1) := by decide +kernel
theorem d_Terms_addPairs_24 : decode b_Terms_addPairs 24 = .ok (.getfield 22, 3) := by decide +kernel
theorem d_Terms_addPairs_27 : decode b_Terms_addPairs 27 = .ok (.if_icmp .ge (72), 3) := by decide +kernel
theorem d_Terms_addPairs_30 : decode b_Terms_addPairs 30 = .ok (.aload_n 1, 1) := by decide +kernel
theorem d_Terms_addPairs_31 : decode b_Terms_addPairs 31 = .ok (.getfield 48, 3) := by decide +kernel
theorem d_Terms_addPairs_34 : decode b_Terms_addPairs 34 = .ok (.iload 5, 2) := by decide +kernel
theorem d_Terms_addPairs_36 : decode b_Terms_addPairs 36 = .ok (.caload, 1) := by decide +kernel
theorem d_Terms_addPairs_37 : decode b_Terms_addPairs 37 = .ok (.iload_n 3, 1) := by decide +kernel
theorem d_Terms_addPairs_38 : decode b_Terms_addPairs 38 = .ok (.if_icmp .ne (55), 3) := by decide +kernel
theorem d_Terms_addPairs_41 : decode b_Terms_addPairs 41 = .ok (.aload_n 1, 1) := by decide +kernel
theorem d_Terms_addPairs_42 : decode b_Terms_addPairs 42 = .ok (.getfield 28, 3) := by decide +kernel
theorem d_Terms_addPairs_45 : decode b_Terms_addPairs 45 = .ok (.iload_n 2, 1) := by decide +kernel
theorem d_Terms_addPairs_46 : decode b_Terms_addPairs 46 = .ok (.iaload, 1) := by decide +kernel
theorem d_Terms_addPairs_47 : decode b_Terms_addPairs 47 = .ok (.i2l, 1) := by decide +kernel
theorem d_Terms_addPairs_48 : decode b_Terms_addPairs 48 = .ok (.aload_n 1, 1) := by decide +kernel
theorem d_Terms_addPairs_49 : decode b_Terms_addPairs 49 = .ok (.getfield 28, 3) := by decide +kernel
theorem d_Terms_addPairs_52 : decode b_Terms_addPairs 52 = .ok (.iload 5, 2) := by decide +kernel
theorem d_Terms_addPairs_54 : decode b_Terms_addPairs 54 = .ok (.iaload, 1) := by decide +kernel
theorem d_Terms_addPairs_55 : decode b_Terms_addPairs 55 = .ok (.i2l, 1) := by decide +kernel
theorem d_Terms_addPairs_56 : decode b_Terms_addPairs 56 = .ok (.lmul, 1) := by decide +kernel
theorem d_Terms_addPairs_57 : decode b_Terms_addPairs 57 = .ok (.ldc2_w 55, 3) := by decide +kernel
theorem d_Terms_addPairs_60 : decode b_Terms_addPairs 60 = .ok (.ldiv, 1) := by decide +kernel
theorem d_Terms_addPairs_61 : decode b_Terms_addPairs 61 = .ok (.lstore 6, 2) := by decide +kernel
theorem d_Terms_addPairs_63 : decode b_Terms_addPairs 63 = .ok (.aload_n 0, 1) := by decide +kernel
theorem d_Terms_addPairs_64 : decode b_Terms_addPairs 64 = .ok (.aload_n 1, 1) := by decide +kernel
theorem d_Terms_addPairs_65 : decode b_Terms_addPairs 65 = .ok (.getfield 27, 3) := by decide +kernel
theorem d_Terms_addPairs_68 : decode b_Terms_addPairs 68 = .ok (.iload_n 2, 1) := by decide +kernel
theorem d_Terms_addPairs_69 : decode b_Terms_addPairs 69 = .ok (.iaload, 1) := by decide +kernel
theorem d_Terms_addPairs_70 : decode b_Terms_addPairs 70 = .ok (.ldc 57, 2) := by decide +kernel
theorem d_Terms_addPairs_72 : decode b_Terms_addPairs 72 = .ok (.imul, 1) := by decide +kernel
theorem d_Terms_addPairs_73 : decode b_Terms_addPairs 73 = .ok (.aload_n 1, 1) := by decide +kernel
theorem d_Terms_addPairs_74 : decode b_Terms_addPairs 74 = .ok (.getfield 27, 3) := by decide +kernel
theorem d_Terms_addPairs_77 : decode b_Terms_addPairs 77 = .ok (.iload 5, 2) := by decide +kernel
theorem d_Terms_addPairs_79 : decode b_Terms_addPairs 79 = .ok (.iaload, 1) := by decide +kernel
theorem d_Terms_addPairs_80 : decode b_Terms_addPairs 80 = .ok (.ixor, 1) := by decide +kernel
theorem d_Terms_addPairs_81 : decode b_Terms_addPairs 81 = .ok (.lload 6, 2) := by decide +kernel
theorem d_Terms_addPairs_83 : decode b_Terms_addPairs 83 = .ok (.ldc2_w 58, 3) := by decide +kernel
theorem d_Terms_addPairs_86 : decode b_Terms_addPairs 86 = .ok (.invokestatic 60, 3) := by decide +kernel
theorem d_Terms_addPairs_89 : decode b_Terms_addPairs 89 = .ok (.l2i, 1) := by decide +kernel
theorem d_Terms_addPairs_90 : decode b_Terms_addPairs 90 = .ok (.invokevirtual 29, 3) := by decide +kernel
theorem d_Terms_addPairs_93 : decode b_Terms_addPairs 93 = .ok (.iinc 5 (1), 3) := by decide +kernel
theorem d_Terms_addPairs_96 : decode b_Terms_addPairs 96 = .ok (.goto (-75), 3) := by decide +kernel
theorem d_Terms_addPairs_99 : decode b_Terms_addPairs 99 = .ok (.return_, 1) := by decide +kernel
set_option maxHeartbeats 4000000 in
set_option maxRecDepth 100000 in
theorem c_Terms_addPairs (l : Launch) (D : va_G) (G : Nat → ClassId) (A : Nat → Prop) (Z : va_W) (h : Nat) (ha : Nat) (hv : Nat) (th : Nat → Int32) (tv : Nat → Int32) (q : Nat) (x : Nat) (xa : Nat) (xb : Nat) (xc : Nat) (fh : Nat → Int32) (fv : Nat → Int32) (fl : Nat → Int32) (k : Nat) (lab : Bool) (lb : Int32) (im : Int32) (f : Nat) (rt : Int32) (hk : k ≤ 12) (hf : f < k) (hq : q + (hq_prs0 fh fv fl k f rt).length ≤ 247) : hq_FV l D G A y_Terms_addPairs b_Terms_addPairs 8 2 [.ref h, .ref x, .int (nI f), .int rt] ([hq_o6 h ha hv (nI q), hq_ai ha (G 0) 247 th, hq_ai hv (G 0) 247 tv, hq_o1 x xa xb xc (nI k) (hq_z lab) lb im, hq_ai xa (G 0) 12 fh, hq_ai xb (G 0) 12 fv, hq_ai xc (G 2) 12 fl] ++ Z) ([hq_o6 h ha hv (nI (q + (hq_prs0 fh fv fl k f rt).length)), hq_ai ha (G 0) 247 (hq_wr upd th q ((hq_prs0 fh fv fl k f rt).map Prod.fst)), hq_ai hv (G 0) 247 (hq_wr upd tv q ((hq_prs0 fh fv fl k f rt).map Prod.snd)), hq_o1 x xa xb xc (nI k) (hq_z lab) lb im, hq_ai xa (G 0) 12 fh, hq_ai xb (G 0) 12 fv, hq_ai xc (G 2) 12 fl] ++ Z) := by
  refine hq_bV (by decide) (Nat.le_of_ble_eq_true rfl) ?_
  intro p e s m args below meth c Q hx hb hml hts hown hA hK hN hin hret ls H locs hl hP hD hS
  have hown : s.vm.findClass "HashedLearner$Terms" = some m.cls := hown
  have hl : lv_has ls 8 [(0, .ref h), (1, .ref x), (2, .int (nI f)), (3, .int rt)] := hl
  have cut17 : ∀ (g0 : Nat) (ls : Array Slot) (H : Heap) (locs : List Loc), (g0 ≤ k) → (hq_prs0 fh fv fl k f rt = hq_prs fh fv fl f rt g0 (k - g0)) → lv_has ls 8 [(0, .ref h), (1, .ref x), (2, .int (nI f)), (3, .int rt), (4, .int (nI g0))] → va_P D hq_cl ([hq_o6 h ha hv (nI q), hq_ai ha (G 0) 247 th, hq_ai hv (G 0) 247 tv, hq_o1 x xa xb xc (nI k) (hq_z lab) lb im, hq_ai xa (G 0) 12 fh, hq_ai xb (G 0) 12 fv, hq_ai xc (G 2) 12 fl] ++ Z) H → va_D A ([hq_o6 h ha hv (nI q), hq_ai ha (G 0) 247 th, hq_ai hv (G 0) 247 tv, hq_o1 x xa xb xc (nI k) (hq_z lab) lb im, hq_ai xa (G 0) 12 fh, hq_ai xb (G 0) 12 fv, hq_ai xc (G 2) 12 fl] ++ Z) → va_S A s.heap H locs → W p l e (hq_rm 2 0 0) s m args below meth c H locs 0 0 Q (F0 m 17 ls []) := by
    intro g0 ls H locs hg0 hg hl hP hD hS
    refine lv_iload hx hb d_Terms_addPairs_17 (lv_at hl 4 rfl) ?_
    refine lv_istore (nL := 8) (lv' := [(5, .int (nI g0)), (0, .ref h), (1, .ref x), (2, .int (nI f)), (3, .int rt), (4, .int (nI g0))]) hx hb d_Terms_addPairs_19 hl (by decide) rfl (fun ls hl => ?_)
    have cut21 : ∀ (kz : Nat) (g : Nat) (Wl : List (Int32 × Int32)) (ls : Array Slot) (H : Heap) (locs : List Loc), k - g = kz → (g ≤ k) → (hq_prs0 fh fv fl k f rt = Wl ++ hq_prs fh fv fl f rt g (k - g)) → lv_has ls 8 [(0, .ref h), (1, .ref x), (2, .int (nI f)), (3, .int rt), (5, .int (nI g))] → va_P D hq_cl ([hq_o6 h ha hv (nI (q + Wl.length)), hq_ai ha (G 0) 247 (hq_wr upd th q (Wl.map Prod.fst)), hq_ai hv (G 0) 247 (hq_wr upd tv q (Wl.map Prod.snd)), hq_o1 x xa xb xc (nI k) (hq_z lab) lb im, hq_ai xa (G 0) 12 fh, hq_ai xb (G 0) 12 fv, hq_ai xc (G 2) 12 fl] ++ Z) H → va_D A ([hq_o6 h ha hv (nI (q + Wl.length)), hq_ai ha (G 0) 247 (hq_wr upd th q (Wl.map Prod.fst)), hq_ai hv (G 0) 247 (hq_wr upd tv q (Wl.map Prod.snd)), hq_o1 x xa xb xc (nI k) (hq_z lab) lb im, hq_ai xa (G 0) 12 fh, hq_ai xb (G 0) 12 fv, hq_ai xc (G 2) 12 fl] ++ Z) → va_S A s.heap H locs → W p l e (hq_rm 2 0 0) s m args below meth c H locs 0 0 Q (F0 m 21 ls []) := by
      intro kz
      induction kz using Nat.strongRecOn with
      | ind kz ih =>
        intro g Wl ls H locs hkz hgk hF hl hP hD hS
        subst hkz
        refine lv_iload hx hb d_Terms_addPairs_21 (lv_at hl 4 rfl) ?_
        refine lv_aload_n hx hb d_Terms_addPairs_23 rfl (lv_at hl 1 rfl) ?_
        refine va_get (D := D) (ci := 1) (v := .int (nI k)) (C := R_Example) (T := F_Example) (N := 7) hx hb hts uw_Example hown hK hP 3 rfl rfl 3 (by decide) (hts _ fl_Terms_22) (fun _ h9 => h9) rfl d_Terms_addPairs_24 ?_
        refine lv_icmp_ge (tgt := 99) hx hb d_Terms_addPairs_27 rfl (fun c27 => ?_) (fun c27 => ?_)
        · -- 27 taken
          have c27 : k ≤ g := (nI_leI (a := k) (b := g) (by omega) (by omega)).mp c27
          have e9_0 : (nI (q + (hq_prs0 fh fv fl k f rt).length)) = (nI (q + Wl.length)) := by first | exact hq_wrF | exact hq_wrF0 | exact hq_wrG | exact hq_wrG0 | exact hq_wrN | exact hq_wrN0 | exact hq_wrM | exact hq_wrM0 | (rw [hF, hq_prs_end (g := g) (j := k) (by omega), List.append_nil]) | rfl
          have e9_1 : (hq_wr upd th q ((hq_prs0 fh fv fl k f rt).map Prod.fst)) = (hq_wr upd th q (Wl.map Prod.fst)) := by first | exact hq_wrF | exact hq_wrF0 | exact hq_wrG | exact hq_wrG0 | exact hq_wrN | exact hq_wrN0 | exact hq_wrM | exact hq_wrM0 | (rw [hF, hq_prs_end (g := g) (j := k) (by omega), List.append_nil]) | rfl
          have e9_2 : (hq_wr upd tv q ((hq_prs0 fh fv fl k f rt).map Prod.snd)) = (hq_wr upd tv q (Wl.map Prod.snd)) := by first | exact hq_wrF | exact hq_wrF0 | exact hq_wrG | exact hq_wrG0 | exact hq_wrN | exact hq_wrN0 | exact hq_wrM | exact hq_wrM0 | (rw [hF, hq_prs_end (g := g) (j := k) (by omega), List.append_nil]) | rfl
          have hP : va_P D hq_cl ([hq_o6 h ha hv (nI (q + (hq_prs0 fh fv fl k f rt).length)), hq_ai ha (G 0) 247 (hq_wr upd th q ((hq_prs0 fh fv fl k f rt).map Prod.fst)), hq_ai hv (G 0) 247 (hq_wr upd tv q ((hq_prs0 fh fv fl k f rt).map Prod.snd)), hq_o1 x xa xb xc (nI k) (hq_z lab) lb im, hq_ai xa (G 0) 12 fh, hq_ai xb (G 0) 12 fv, hq_ai xc (G 2) 12 fl] ++ Z) H := by rw [e9_0, e9_1, e9_2]; exact hP
          have hD : va_D A ([hq_o6 h ha hv (nI (q + (hq_prs0 fh fv fl k f rt).length)), hq_ai ha (G 0) 247 (hq_wr upd th q ((hq_prs0 fh fv fl k f rt).map Prod.fst)), hq_ai hv (G 0) 247 (hq_wr upd tv q ((hq_prs0 fh fv fl k f rt).map Prod.snd)), hq_o1 x xa xb xc (nI k) (hq_z lab) lb im, hq_ai xa (G 0) 12 fh, hq_ai xb (G 0) 12 fv, hq_ai xc (G 2) 12 fl] ++ Z) := by rw [e9_0, e9_1, e9_2]; exact hD
          exact hret () H locs 99 ls d_Terms_addPairs_99 (trivial) hP hD hS
        · -- 27 not taken
          have c27 : ¬ k ≤ g := fun h => c27 ((nI_leI (a := k) (b := g) (by omega) (by omega)).mpr h)
          refine lv_aload_n hx hb d_Terms_addPairs_30 rfl (lv_at hl 1 rfl) ?_
          refine va_get (D := D) (ci := 1) (v := .ref xc) (C := R_Example) (T := F_Example) (N := 7) hx hb hts uw_Example hown hK hP 3 rfl rfl 2 (by decide) (hts _ fl_Terms_48) (fun _ h9 => h9) rfl d_Terms_addPairs_31 ?_
          refine lv_iload hx hb d_Terms_addPairs_34 (lv_at hl 4 rfl) ?_
          refine hq_cald (j := g) hx hb hK hP 6 rfl (by omega) (by omega) d_Terms_addPairs_36 ?_
          refine lv_iload_n hx hb d_Terms_addPairs_37 rfl (lv_at hl 3 rfl) ?_
          refine lv_icmp_ne (tgt := 93) hx hb d_Terms_addPairs_38 rfl (fun c38 => ?_) (fun c38 => ?_)
          · -- 38 taken
            have c38 : ¬ (fl g) = rt := c38
            refine lv_iinc (nL := 8) (k := 4) (v := nI (g + 1)) (lv' := [(5, .int (nI (g + 1))), (0, .ref h), (1, .ref x), (2, .int (nI f)), (3, .int rt)]) hx hb d_Terms_addPairs_93 hl rfl (nI_add g 1) (by decide) rfl (fun ls hl => ?_)
            refine lv_goto (tgt := 21) hx hb d_Terms_addPairs_96 rfl ?_
            exact ih _ (by omega) (g + 1) Wl ls H locs rfl (by first | assumption | omega) (by rw [hF, hq_prs_no (g := g) (j := k) (by omega) c38]) (lv_sub hl [1, 2, 3, 4, 0] rfl) hP hD hS
          · -- 38 not taken
            have c38 : (fl g) = rt := c38
            have hz := congrArg List.length hF
            rw [hq_prs_yes (g := g) (j := k) (by omega) c38, List.length_append, List.length_cons] at hz
            refine lv_aload_n hx hb d_Terms_addPairs_41 rfl (lv_at hl 1 rfl) ?_
            refine va_get (D := D) (ci := 1) (v := .ref xb) (C := R_Example) (T := F_Example) (N := 7) hx hb hts uw_Example hown hK hP 3 rfl rfl 1 (by decide) (hts _ fl_Terms_28) (fun _ h9 => h9) rfl d_Terms_addPairs_42 ?_
            refine lv_iload_n hx hb d_Terms_addPairs_45 rfl (lv_at hl 2 rfl) ?_
            refine hq_iald (j := f) hx hb hK hP 5 rfl (by omega) (by omega) d_Terms_addPairs_46 ?_
            refine lv_i2l (v := Int32.toInt64 (fv f)) hx hb d_Terms_addPairs_47 rfl ?_
            refine lv_aload_n hx hb d_Terms_addPairs_48 rfl (lv_at hl 1 rfl) ?_
            refine va_get (D := D) (ci := 1) (v := .ref xb) (C := R_Example) (T := F_Example) (N := 7) hx hb hts uw_Example hown hK hP 3 rfl rfl 1 (by decide) (hts _ fl_Terms_28) (fun _ h9 => h9) rfl d_Terms_addPairs_49 ?_
            refine lv_iload hx hb d_Terms_addPairs_52 (lv_at hl 4 rfl) ?_
            refine hq_iald (j := g) hx hb hK hP 5 rfl (by omega) (by omega) d_Terms_addPairs_54 ?_
            refine lv_i2l (v := Int32.toInt64 (fv g)) hx hb d_Terms_addPairs_55 rfl ?_
            refine lv_lmul hx hb d_Terms_addPairs_56 ?_
            refine lv_ldc2 (v := 100) hx hb hown (hts _ kl_Terms_55) d_Terms_addPairs_57 ?_
            refine lv_ldiv hx hb d_Terms_addPairs_60 (by decide) ?_
            refine lv_lstore (nL := 8) (lv' := [(6, .long (((Int32.toInt64 (fv f)) * (Int32.toInt64 (fv g))) / 100)), (0, .ref h), (1, .ref x), (2, .int (nI f)), (3, .int rt), (5, .int (nI g))]) hx hb d_Terms_addPairs_61 hl (by decide) rfl (fun ls hl => ?_)
            refine lv_aload_n hx hb d_Terms_addPairs_63 rfl (lv_at hl 1 rfl) ?_
            refine lv_aload_n hx hb d_Terms_addPairs_64 rfl (lv_at hl 2 rfl) ?_
            refine va_get (D := D) (ci := 1) (v := .ref xa) (C := R_Example) (T := F_Example) (N := 7) hx hb hts uw_Example hown hK hP 3 rfl rfl 0 (by decide) (hts _ fl_Terms_27) (fun _ h9 => h9) rfl d_Terms_addPairs_65 ?_
            refine lv_iload_n hx hb d_Terms_addPairs_68 rfl (lv_at hl 3 rfl) ?_
            refine hq_iald (j := f) hx hb hK hP 4 rfl (by omega) (by omega) d_Terms_addPairs_69 ?_
            refine lv_ldc (v := 16777619) hx hb hown (hts _ ki_Terms_57) d_Terms_addPairs_70 ?_
            refine lv_imul hx hb d_Terms_addPairs_72 ?_
            refine lv_aload_n hx hb d_Terms_addPairs_73 rfl (lv_at hl 2 rfl) ?_
            refine va_get (D := D) (ci := 1) (v := .ref xa) (C := R_Example) (T := F_Example) (N := 7) hx hb hts uw_Example hown hK hP 3 rfl rfl 0 (by decide) (hts _ fl_Terms_27) (fun _ h9 => h9) rfl d_Terms_addPairs_74 ?_
            refine lv_iload hx hb d_Terms_addPairs_77 (lv_at hl 5 rfl) ?_
            refine hq_iald (j := g) hx hb hK hP 4 rfl (by omega) (by omega) d_Terms_addPairs_79 ?_
            refine lv_ixor hx hb d_Terms_addPairs_80 ?_
            refine lv_lload hx hb d_Terms_addPairs_81 (lv_at hl 0 rfl) ?_
            refine lv_ldc2 (v := 99999) hx hb hown (hts _ kl_Terms_58) d_Terms_addPairs_83 ?_
            have hPc : va_P D hq_cl ([] ++ ([hq_o6 h ha hv (nI (q + Wl.length)), hq_ai ha (G 0) 247 (hq_wr upd th q (Wl.map Prod.fst)), hq_ai hv (G 0) 247 (hq_wr upd tv q (Wl.map Prod.snd)), hq_o1 x xa xb xc (nI k) (hq_z lab) lb im, hq_ai xa (G 0) 12 fh, hq_ai xb (G 0) 12 fv, hq_ai xc (G 2) 12 fl] ++ Z)) H := hP
            have hDc : va_D A ([] ++ ([hq_o6 h ha hv (nI (q + Wl.length)), hq_ai ha (G 0) 247 (hq_wr upd th q (Wl.map Prod.fst)), hq_ai hv (G 0) 247 (hq_wr upd tv q (Wl.map Prod.snd)), hq_o1 x xa xb xc (nI k) (hq_z lab) lb im, hq_ai xa (G 0) 12 fh, hq_ai xb (G 0) 12 fv, hq_ai xc (G 2) 12 fl] ++ Z)) := hD
            refine hq_lF (hq_rSN (As := [.long (((Int32.toInt64 (fv f)) * (Int32.toInt64 (fv g))) / 100), .long 99999]) (rest := [.int (((fh f) * 16777619) ^^^ (fh g)), .ref h]) hx hb hml hown hts (c_H_clip l D G A ([hq_o6 h ha hv (nI (q + Wl.length)), hq_ai ha (G 0) 247 (hq_wr upd th q (Wl.map Prod.fst)), hq_ai hv (G 0) 247 (hq_wr upd tv q (Wl.map Prod.snd)), hq_o1 x xa xb xc (nI k) (hq_z lab) lb im, hq_ai xa (G 0) 12 fh, hq_ai xb (G 0) 12 fv, hq_ai xc (G 2) 12 fl] ++ Z) (((Int32.toInt64 (fv f)) * (Int32.toInt64 (fv g))) / 100) 99999) yy_H_clip lk_Terms_60 hA hK hN hS hPc hDc rfl hl.1 rfl (Nat.le_of_ble_eq_true rfl) d_Terms_addPairs_86 ⟨by decide, by decide⟩ ⟨by decide, by decide⟩) hS (fun H locs hP hD hS => ?_)
            have hP : va_P D hq_cl ([hq_o6 h ha hv (nI (q + Wl.length)), hq_ai ha (G 0) 247 (hq_wr upd th q (Wl.map Prod.fst)), hq_ai hv (G 0) 247 (hq_wr upd tv q (Wl.map Prod.snd)), hq_o1 x xa xb xc (nI k) (hq_z lab) lb im, hq_ai xa (G 0) 12 fh, hq_ai xb (G 0) 12 fv, hq_ai xc (G 2) 12 fl] ++ Z) H := hP
            have hD : va_D A ([hq_o6 h ha hv (nI (q + Wl.length)), hq_ai ha (G 0) 247 (hq_wr upd th q (Wl.map Prod.fst)), hq_ai hv (G 0) 247 (hq_wr upd tv q (Wl.map Prod.snd)), hq_o1 x xa xb xc (nI k) (hq_z lab) lb im, hq_ai xa (G 0) 12 fh, hq_ai xb (G 0) 12 fv, hq_ai xc (G 2) 12 fl] ++ Z) := hD
            refine lv_l2i (v := Int64.toInt32 (f_H_clip (((Int32.toInt64 (fv f)) * (Int32.toInt64 (fv g))) / 100) 99999)) hx hb d_Terms_addPairs_89 rfl ?_
            have hPc : va_P D hq_cl ([hq_o6 h ha hv (nI (q + Wl.length)), hq_ai ha (G 0) 247 (hq_wr upd th q (Wl.map Prod.fst)), hq_ai hv (G 0) 247 (hq_wr upd tv q (Wl.map Prod.snd))] ++ ([hq_o1 x xa xb xc (nI k) (hq_z lab) lb im, hq_ai xa (G 0) 12 fh, hq_ai xb (G 0) 12 fv, hq_ai xc (G 2) 12 fl] ++ Z)) H := hP
            have hDc : va_D A ([hq_o6 h ha hv (nI (q + Wl.length)), hq_ai ha (G 0) 247 (hq_wr upd th q (Wl.map Prod.fst)), hq_ai hv (G 0) 247 (hq_wr upd tv q (Wl.map Prod.snd))] ++ ([hq_o1 x xa xb xc (nI k) (hq_z lab) lb im, hq_ai xa (G 0) 12 fh, hq_ai xb (G 0) 12 fv, hq_ai xc (G 2) 12 fl] ++ Z)) := hD
            refine hq_vF (hq_rV (As := [.int (((fh f) * 16777619) ^^^ (fh g)), .int (Int64.toInt32 (f_H_clip (((Int32.toInt64 (fv f)) * (Int32.toInt64 (fv g))) / 100) 99999))]) (rest := []) hx hb hml hown hts (c_Terms_add l D G A ([hq_o1 x xa xb xc (nI k) (hq_z lab) lb im, hq_ai xa (G 0) 12 fh, hq_ai xb (G 0) 12 fv, hq_ai xc (G 2) 12 fl] ++ Z) h ha hv (hq_wr upd th q (Wl.map Prod.fst)) (hq_wr upd tv q (Wl.map Prod.snd)) (q + Wl.length) (((fh f) * 16777619) ^^^ (fh g)) (Int64.toInt32 (f_H_clip (((Int32.toInt64 (fv f)) * (Int32.toInt64 (fv g))) / 100) 99999)) (by first | assumption | omega)) yy_Terms_add lk_Terms_29 hA hK hN hS hPc hDc 0 6 rfl rfl rfl hl.1 rfl (Nat.le_of_ble_eq_true rfl) d_Terms_addPairs_90 ⟨by decide, by decide⟩ ⟨by decide, by decide⟩) hS (fun H locs hP hD hS => ?_)
            have hP : va_P D hq_cl ([hq_o6 h ha hv (nI ((q + Wl.length) + 1)), hq_ai ha (G 0) 247 (upd (hq_wr upd th q (Wl.map Prod.fst)) (q + Wl.length) (((fh f) * 16777619) ^^^ (fh g))), hq_ai hv (G 0) 247 (upd (hq_wr upd tv q (Wl.map Prod.snd)) (q + Wl.length) (Int64.toInt32 (f_H_clip (((Int32.toInt64 (fv f)) * (Int32.toInt64 (fv g))) / 100) 99999))), hq_o1 x xa xb xc (nI k) (hq_z lab) lb im, hq_ai xa (G 0) 12 fh, hq_ai xb (G 0) 12 fv, hq_ai xc (G 2) 12 fl] ++ Z) H := hP
            have hD : va_D A ([hq_o6 h ha hv (nI ((q + Wl.length) + 1)), hq_ai ha (G 0) 247 (upd (hq_wr upd th q (Wl.map Prod.fst)) (q + Wl.length) (((fh f) * 16777619) ^^^ (fh g))), hq_ai hv (G 0) 247 (upd (hq_wr upd tv q (Wl.map Prod.snd)) (q + Wl.length) (Int64.toInt32 (f_H_clip (((Int32.toInt64 (fv f)) * (Int32.toInt64 (fv g))) / 100) 99999))), hq_o1 x xa xb xc (nI k) (hq_z lab) lb im, hq_ai xa (G 0) 12 fh, hq_ai xb (G 0) 12 fv, hq_ai xc (G 2) 12 fl] ++ Z) := hD
            refine lv_iinc (nL := 8) (k := 5) (v := nI (g + 1)) (lv' := [(5, .int (nI (g + 1))), (6, .long (((Int32.toInt64 (fv f)) * (Int32.toInt64 (fv g))) / 100)), (0, .ref h), (1, .ref x), (2, .int (nI f)), (3, .int rt)]) hx hb d_Terms_addPairs_93 hl rfl (nI_add g 1) (by decide) rfl (fun ls hl => ?_)
            refine lv_goto (tgt := 21) hx hb d_Terms_addPairs_96 rfl ?_
            have e9_0 : (nI (q + (Wl ++ [hq_tm fh fv f g]).length)) = (nI ((q + Wl.length) + 1)) := by first | exact hq_wrF | exact hq_wrF0 | exact hq_wrG | exact hq_wrG0 | exact hq_wrN | exact hq_wrN0 | exact hq_wrM | exact hq_wrM0 | (rw [hF, x, List.append_nil]) | rfl
            have e9_1 : (hq_wr upd th q ((Wl ++ [hq_tm fh fv f g]).map Prod.fst)) = (upd (hq_wr upd th q (Wl.map Prod.fst)) (q + Wl.length) (((fh f) * 16777619) ^^^ (fh g))) := by first | exact hq_wrF | exact hq_wrF0 | exact hq_wrG | exact hq_wrG0 | exact hq_wrN | exact hq_wrN0 | exact hq_wrM | exact hq_wrM0 | (rw [hF, x, List.append_nil]) | rfl
            have e9_2 : (hq_wr upd tv q ((Wl ++ [hq_tm fh fv f g]).map Prod.snd)) = (upd (hq_wr upd tv q (Wl.map Prod.snd)) (q + Wl.length) (Int64.toInt32 (f_H_clip (((Int32.toInt64 (fv f)) * (Int32.toInt64 (fv g))) / 100) 99999))) := by first | exact hq_wrF | exact hq_wrF0 | exact hq_wrG | exact hq_wrG0 | exact hq_wrN | exact hq_wrN0 | exact hq_wrM | exact hq_wrM0 | (rw [hF, x, List.append_nil]) | rfl
            have hP : va_P D hq_cl ([hq_o6 h ha hv (nI (q + (Wl ++ [hq_tm fh fv f g]).length)), hq_ai ha (G 0) 247 (hq_wr upd th q ((Wl ++ [hq_tm fh fv f g]).map Prod.fst)), hq_ai hv (G 0) 247 (hq_wr upd tv q ((Wl ++ [hq_tm fh fv f g]).map Prod.snd)), hq_o1 x xa xb xc (nI k) (hq_z lab) lb im, hq_ai xa (G 0) 12 fh, hq_ai xb (G 0) 12 fv, hq_ai xc (G 2) 12 fl] ++ Z) H := by rw [e9_0, e9_1, e9_2]; exact hP
            have hD : va_D A ([hq_o6 h ha hv (nI (q + (Wl ++ [hq_tm fh fv f g]).length)), hq_ai ha (G 0) 247 (hq_wr upd th q ((Wl ++ [hq_tm fh fv f g]).map Prod.fst)), hq_ai hv (G 0) 247 (hq_wr upd tv q ((Wl ++ [hq_tm fh fv f g]).map Prod.snd)), hq_o1 x xa xb xc (nI k) (hq_z lab) lb im, hq_ai xa (G 0) 12 fh, hq_ai xb (G 0) 12 fv, hq_ai xc (G 2) 12 fl] ++ Z) := by rw [e9_0, e9_1, e9_2]; exact hD
            exact ih _ (by omega) (g + 1) (Wl ++ [hq_tm fh fv f g]) ls H locs rfl (by first | assumption | omega) (by rw [hF, hq_prs_yes (g := g) (j := k) (by omega) c38, List.append_assoc]; rfl) (lv_sub hl [2, 3, 4, 5, 0] rfl) hP hD hS
    have e9_0 : (nI (q + ([] : List (Int32 × Int32)).length)) = (nI q) := by first | exact hq_wrF | exact hq_wrF0 | exact hq_wrG | exact hq_wrG0 | exact hq_wrN | exact hq_wrN0 | exact hq_wrM | exact hq_wrM0 | (rw [hF, x, List.append_nil]) | rfl
    have e9_1 : (hq_wr upd th q (([] : List (Int32 × Int32)).map Prod.fst)) = th := by first | exact hq_wrF | exact hq_wrF0 | exact hq_wrG | exact hq_wrG0 | exact hq_wrN | exact hq_wrN0 | exact hq_wrM | exact hq_wrM0 | (rw [hF, x, List.append_nil]) | rfl
    have e9_2 : (hq_wr upd tv q (([] : List (Int32 × Int32)).map Prod.snd)) = tv := by first | exact hq_wrF | exact hq_wrF0 | exact hq_wrG | exact hq_wrG0 | exact hq_wrN | exact hq_wrN0 | exact hq_wrM | exact hq_wrM0 | (rw [hF, x, List.append_nil]) | rfl
    have hP : va_P D hq_cl ([hq_o6 h ha hv (nI (q + ([] : List (Int32 × Int32)).length)), hq_ai ha (G 0) 247 (hq_wr upd th q (([] : List (Int32 × Int32)).map Prod.fst)), hq_ai hv (G 0) 247 (hq_wr upd tv q (([] : List (Int32 × Int32)).map Prod.snd)), hq_o1 x xa xb xc (nI k) (hq_z lab) lb im, hq_ai xa (G 0) 12 fh, hq_ai xb (G 0) 12 fv, hq_ai xc (G 2) 12 fl] ++ Z) H := by rw [e9_0, e9_1, e9_2]; exact hP
    have hD : va_D A ([hq_o6 h ha hv (nI (q + ([] : List (Int32 × Int32)).length)), hq_ai ha (G 0) 247 (hq_wr upd th q (([] : List (Int32 × Int32)).map Prod.fst)), hq_ai hv (G 0) 247 (hq_wr upd tv q (([] : List (Int32 × Int32)).map Prod.snd)), hq_o1 x xa xb xc (nI k) (hq_z lab) lb im, hq_ai xa (G 0) 12 fh, hq_ai xb (G 0) 12 fv, hq_ai xc (G 2) 12 fl] ++ Z) := by rw [e9_0, e9_1, e9_2]; exact hD
    exact cut21 _ g0 ([] : List (Int32 × Int32)) ls H locs rfl (by first | assumption | omega) (hg) (lv_sub hl [1, 2, 3, 4, 0] rfl) hP hD hS
  refine lv_aload_n hx hb d_Terms_addPairs_0 rfl (lv_at hl 1 rfl) ?_
  refine va_get (D := D) (ci := 1) (v := .ref xc) (C := R_Example) (T := F_Example) (N := 7) hx hb hts uw_Example hown hK hP 3 rfl rfl 2 (by decide) (hts _ fl_Terms_48) (fun _ h9 => h9) rfl d_Terms_addPairs_1 ?_
  refine lv_iload_n hx hb d_Terms_addPairs_4 rfl (lv_at hl 2 rfl) ?_
  refine hq_cald (j := f) hx hb hK hP 6 rfl (by omega) (by omega) d_Terms_addPairs_5 ?_
  refine lv_iload_n hx hb d_Terms_addPairs_6 rfl (lv_at hl 3 rfl) ?_
  refine lv_icmp_ne (tgt := 14) hx hb d_Terms_addPairs_7 rfl (fun c7 => ?_) (fun c7 => ?_)
  · -- 7 taken
    have c7 : ¬ (fl f) = rt := c7
    refine lv_iconst (v := nI 0) hx hb d_Terms_addPairs_14 (by decide) ?_
    refine lv_istore (nL := 8) (lv' := [(4, .int (nI 0)), (0, .ref h), (1, .ref x), (2, .int (nI f)), (3, .int rt)]) hx hb d_Terms_addPairs_15 hl (by decide) rfl (fun ls hl => ?_)
    exact cut17 0 ls H locs (by first | assumption | omega) (by rw [hq_prs0, if_neg c7]) (lv_sub hl [1, 2, 3, 4, 0] rfl) hP hD hS
  · -- 7 not taken
    have c7 : (fl f) = rt := c7
    refine lv_iload_n hx hb d_Terms_addPairs_10 rfl (lv_at hl 2 rfl) ?_
    refine lv_goto (tgt := 15) hx hb d_Terms_addPairs_11 rfl ?_
    refine lv_istore (nL := 8) (lv' := [(4, .int (nI f)), (0, .ref h), (1, .ref x), (2, .int (nI f)), (3, .int rt)]) hx hb d_Terms_addPairs_15 hl (by decide) rfl (fun ls hl => ?_)
    exact cut17 f ls H locs (by first | assumption | omega) (by rw [hq_prs0, if_pos c7]) (lv_sub hl [1, 2, 3, 4, 0] rfl) hP hD hS
theorem d_Terms_addCrossing_0 : decode b_Terms_addCrossing 0 = .ok (.iconst 0, 1) := by decide +kernel
theorem d_Terms_addCrossing_1 : decode b_Terms_addCrossing 1 = .ok (.istore 4, 2) := by decide +kernel
theorem d_Terms_addCrossing_3 : decode b_Terms_addCrossing 3 = .ok (.iload 4, 2) := by decide +kernel
theorem d_Terms_addCrossing_5 : decode b_Terms_addCrossing 5 = .ok (.aload_n 1, 1) := by decide +kernel
theorem d_Terms_addCrossing_6 : decode b_Terms_addCrossing 6 = .ok (.getfield 22, 3) := by decide +kernel
theorem d_Terms_addCrossing_9 : decode b_Terms_addCrossing 9 = .ok (.if_icmp .ge (28), 3) := by decide +kernel
theorem d_Terms_addCrossing_12 : decode b_Terms_addCrossing 12 = .ok (.aload_n 1, 1) := by decide +kernel
theorem d_Terms_addCrossing_13 : decode b_Terms_addCrossing 13 = .ok (.getfield 48, 3) := by decide +kernel
theorem d_Terms_addCrossing_16 : decode b_Terms_addCrossing 16 = .ok (.iload 4, 2) := by decide +kernel
theorem d_Terms_addCrossing_18 : decode b_Terms_addCrossing 18 = .ok (.caload, 1) := by decide +kernel
theorem d_Terms_addCrossing_19 : decode b_Terms_addCrossing 19 = .ok (.iload_n 2, 1) := by decide +kernel
theorem d_Terms_addCrossing_20 : decode b_Terms_addCrossing 20 = .ok (.if_icmp .ne (11), 3) := by decide +kernel
theorem d_Terms_addCrossing_23 : decode b_Terms_addCrossing 23 = .ok (.aload_n 0, 1) := by decide +kernel
theorem d_Terms_addCrossing_24 : decode b_Terms_addCrossing 24 = .ok (.aload_n 1, 1) := by decide +kernel
theorem d_Terms_addCrossing_25 : decode b_Terms_addCrossing 25 = .ok (.iload 4, 2) := by decide +kernel
theorem d_Terms_addCrossing_27 : decode b_Terms_addCrossing 27 = .ok (.iload_n 3, 1) := by decide +kernel
theorem d_Terms_addCrossing_28 : decode b_Terms_addCrossing 28 = .ok (.invokevirtual 51, 3) := by decide +kernel
theorem d_Terms_addCrossing_31 : decode b_Terms_addCrossing 31 = .ok (.iinc 4 (1), 3) := by decide +kernel
theorem d_Terms_addCrossing_34 : decode b_Terms_addCrossing 34 = .ok (.goto (-31), 3) := by decide +kernel
theorem d_Terms_addCrossing_37 : decode b_Terms_addCrossing 37 = .ok (.return_, 1) := by decide +kernel
set_option maxHeartbeats 4000000 in
set_option maxRecDepth 100000 in
theorem c_Terms_addCrossing (l : Launch) (D : va_G) (G : Nat → ClassId) (A : Nat → Prop) (Z : va_W) (h : Nat) (ha : Nat) (hv : Nat) (th : Nat → Int32) (tv : Nat → Int32) (q : Nat) (x : Nat) (xa : Nat) (xb : Nat) (xc : Nat) (fh : Nat → Int32) (fv : Nat → Int32) (fl : Nat → Int32) (k : Nat) (lab : Bool) (lb : Int32) (im : Int32) (lf : Int32) (rt : Int32) (hk : k ≤ 12) (hq : q + (hq_cr fh fv fl k lf rt 0 k).length ≤ 247) : hq_FV l D G A y_Terms_addCrossing b_Terms_addCrossing 5 3 [.ref h, .ref x, .int lf, .int rt] ([hq_o6 h ha hv (nI q), hq_ai ha (G 0) 247 th, hq_ai hv (G 0) 247 tv, hq_o1 x xa xb xc (nI k) (hq_z lab) lb im, hq_ai xa (G 0) 12 fh, hq_ai xb (G 0) 12 fv, hq_ai xc (G 2) 12 fl] ++ Z) ([hq_o6 h ha hv (nI (q + (hq_cr fh fv fl k lf rt 0 k).length)), hq_ai ha (G 0) 247 (hq_wr upd th q ((hq_cr fh fv fl k lf rt 0 k).map Prod.fst)), hq_ai hv (G 0) 247 (hq_wr upd tv q ((hq_cr fh fv fl k lf rt 0 k).map Prod.snd)), hq_o1 x xa xb xc (nI k) (hq_z lab) lb im, hq_ai xa (G 0) 12 fh, hq_ai xb (G 0) 12 fv, hq_ai xc (G 2) 12 fl] ++ Z) := by
  refine hq_bV (by decide) (Nat.le_of_ble_eq_true rfl) ?_
  intro p e s m args below meth c Q hx hb hml hts hown hA hK hN hin hret ls H locs hl hP hD hS
  have hown : s.vm.findClass "HashedLearner$Terms" = some m.cls := hown
  have hl : lv_has ls 5 [(0, .ref h), (1, .ref x), (2, .int lf), (3, .int rt)] := hl
  refine lv_iconst (v := nI 0) hx hb d_Terms_addCrossing_0 (by decide) ?_
  refine lv_istore (nL := 5) (lv' := [(4, .int (nI 0)), (0, .ref h), (1, .ref x), (2, .int lf), (3, .int rt)]) hx hb d_Terms_addCrossing_1 hl (by decide) rfl (fun ls hl => ?_)
  have cut3 : ∀ (kz : Nat) (f : Nat) (Wl : List (Int32 × Int32)) (ls : Array Slot) (H : Heap) (locs : List Loc), k - f = kz → (f ≤ k) → (hq_cr fh fv fl k lf rt 0 k = Wl ++ hq_cr fh fv fl k lf rt f (k - f)) → lv_has ls 5 [(0, .ref h), (1, .ref x), (2, .int lf), (3, .int rt), (4, .int (nI f))] → va_P D hq_cl ([hq_o6 h ha hv (nI (q + Wl.length)), hq_ai ha (G 0) 247 (hq_wr upd th q (Wl.map Prod.fst)), hq_ai hv (G 0) 247 (hq_wr upd tv q (Wl.map Prod.snd)), hq_o1 x xa xb xc (nI k) (hq_z lab) lb im, hq_ai xa (G 0) 12 fh, hq_ai xb (G 0) 12 fv, hq_ai xc (G 2) 12 fl] ++ Z) H → va_D A ([hq_o6 h ha hv (nI (q + Wl.length)), hq_ai ha (G 0) 247 (hq_wr upd th q (Wl.map Prod.fst)), hq_ai hv (G 0) 247 (hq_wr upd tv q (Wl.map Prod.snd)), hq_o1 x xa xb xc (nI k) (hq_z lab) lb im, hq_ai xa (G 0) 12 fh, hq_ai xb (G 0) 12 fv, hq_ai xc (G 2) 12 fl] ++ Z) → va_S A s.heap H locs → W p l e (hq_rm 3 0 0) s m args below meth c H locs 0 0 Q (F0 m 3 ls []) := by
    intro kz
    induction kz using Nat.strongRecOn with
    | ind kz ih =>
      intro f Wl ls H locs hkz hfk hF hl hP hD hS
      subst hkz
      refine lv_iload hx hb d_Terms_addCrossing_3 (lv_at hl 4 rfl) ?_
      refine lv_aload_n hx hb d_Terms_addCrossing_5 rfl (lv_at hl 1 rfl) ?_
      refine va_get (D := D) (ci := 1) (v := .int (nI k)) (C := R_Example) (T := F_Example) (N := 7) hx hb hts uw_Example hown hK hP 3 rfl rfl 3 (by decide) (hts _ fl_Terms_22) (fun _ h9 => h9) rfl d_Terms_addCrossing_6 ?_
      refine lv_icmp_ge (tgt := 37) hx hb d_Terms_addCrossing_9 rfl (fun c9 => ?_) (fun c9 => ?_)
      · -- 9 taken
        have c9 : k ≤ f := (nI_leI (a := k) (b := f) (by omega) (by omega)).mp c9
        have e9_0 : (nI (q + (hq_cr fh fv fl k lf rt 0 k).length)) = (nI (q + Wl.length)) := by first | exact hq_wrF | exact hq_wrF0 | exact hq_wrG | exact hq_wrG0 | exact hq_wrN | exact hq_wrN0 | exact hq_wrM | exact hq_wrM0 | (rw [hF, hq_cr_end (f := f) (j := k) (by omega), List.append_nil]) | rfl
        have e9_1 : (hq_wr upd th q ((hq_cr fh fv fl k lf rt 0 k).map Prod.fst)) = (hq_wr upd th q (Wl.map Prod.fst)) := by first | exact hq_wrF | exact hq_wrF0 | exact hq_wrG | exact hq_wrG0 | exact hq_wrN | exact hq_wrN0 | exact hq_wrM | exact hq_wrM0 | (rw [hF, hq_cr_end (f := f) (j := k) (by omega), List.append_nil]) | rfl
        have e9_2 : (hq_wr upd tv q ((hq_cr fh fv fl k lf rt 0 k).map Prod.snd)) = (hq_wr upd tv q (Wl.map Prod.snd)) := by first | exact hq_wrF | exact hq_wrF0 | exact hq_wrG | exact hq_wrG0 | exact hq_wrN | exact hq_wrN0 | exact hq_wrM | exact hq_wrM0 | (rw [hF, hq_cr_end (f := f) (j := k) (by omega), List.append_nil]) | rfl
        have hP : va_P D hq_cl ([hq_o6 h ha hv (nI (q + (hq_cr fh fv fl k lf rt 0 k).length)), hq_ai ha (G 0) 247 (hq_wr upd th q ((hq_cr fh fv fl k lf rt 0 k).map Prod.fst)), hq_ai hv (G 0) 247 (hq_wr upd tv q ((hq_cr fh fv fl k lf rt 0 k).map Prod.snd)), hq_o1 x xa xb xc (nI k) (hq_z lab) lb im, hq_ai xa (G 0) 12 fh, hq_ai xb (G 0) 12 fv, hq_ai xc (G 2) 12 fl] ++ Z) H := by rw [e9_0, e9_1, e9_2]; exact hP
        have hD : va_D A ([hq_o6 h ha hv (nI (q + (hq_cr fh fv fl k lf rt 0 k).length)), hq_ai ha (G 0) 247 (hq_wr upd th q ((hq_cr fh fv fl k lf rt 0 k).map Prod.fst)), hq_ai hv (G 0) 247 (hq_wr upd tv q ((hq_cr fh fv fl k lf rt 0 k).map Prod.snd)), hq_o1 x xa xb xc (nI k) (hq_z lab) lb im, hq_ai xa (G 0) 12 fh, hq_ai xb (G 0) 12 fv, hq_ai xc (G 2) 12 fl] ++ Z) := by rw [e9_0, e9_1, e9_2]; exact hD
        exact hret () H locs 37 ls d_Terms_addCrossing_37 (trivial) hP hD hS
      · -- 9 not taken
        have c9 : ¬ k ≤ f := fun h => c9 ((nI_leI (a := k) (b := f) (by omega) (by omega)).mpr h)
        refine lv_aload_n hx hb d_Terms_addCrossing_12 rfl (lv_at hl 1 rfl) ?_
        refine va_get (D := D) (ci := 1) (v := .ref xc) (C := R_Example) (T := F_Example) (N := 7) hx hb hts uw_Example hown hK hP 3 rfl rfl 2 (by decide) (hts _ fl_Terms_48) (fun _ h9 => h9) rfl d_Terms_addCrossing_13 ?_
        refine lv_iload hx hb d_Terms_addCrossing_16 (lv_at hl 4 rfl) ?_
        refine hq_cald (j := f) hx hb hK hP 6 rfl (by omega) (by omega) d_Terms_addCrossing_18 ?_
        refine lv_iload_n hx hb d_Terms_addCrossing_19 rfl (lv_at hl 2 rfl) ?_
        refine lv_icmp_ne (tgt := 31) hx hb d_Terms_addCrossing_20 rfl (fun c20 => ?_) (fun c20 => ?_)
        · -- 20 taken
          have c20 : ¬ (fl f) = lf := c20
          refine lv_iinc (nL := 5) (k := 4) (v := nI (f + 1)) (lv' := [(4, .int (nI (f + 1))), (0, .ref h), (1, .ref x), (2, .int lf), (3, .int rt)]) hx hb d_Terms_addCrossing_31 hl rfl (nI_add f 1) (by decide) rfl (fun ls hl => ?_)
          refine lv_goto (tgt := 3) hx hb d_Terms_addCrossing_34 rfl ?_
          exact ih _ (by omega) (f + 1) Wl ls H locs rfl (by first | assumption | omega) (by rw [hF, hq_cr_no (f := f) (j := k) (by omega) c20]) (lv_sub hl [1, 2, 3, 4, 0] rfl) hP hD hS
        · -- 20 not taken
          have c20 : (fl f) = lf := c20
          have hz := congrArg List.length hF
          rw [hq_cr_yes (f := f) (j := k) (by omega) c20, List.length_append, List.length_append] at hz
          refine lv_aload_n hx hb d_Terms_addCrossing_23 rfl (lv_at hl 0 rfl) ?_
          refine lv_aload_n hx hb d_Terms_addCrossing_24 rfl (lv_at hl 1 rfl) ?_
          refine lv_iload hx hb d_Terms_addCrossing_25 (lv_at hl 4 rfl) ?_
          refine lv_iload_n hx hb d_Terms_addCrossing_27 rfl (lv_at hl 3 rfl) ?_
          have hPc : va_P D hq_cl ([hq_o6 h ha hv (nI (q + Wl.length)), hq_ai ha (G 0) 247 (hq_wr upd th q (Wl.map Prod.fst)), hq_ai hv (G 0) 247 (hq_wr upd tv q (Wl.map Prod.snd)), hq_o1 x xa xb xc (nI k) (hq_z lab) lb im, hq_ai xa (G 0) 12 fh, hq_ai xb (G 0) 12 fv, hq_ai xc (G 2) 12 fl] ++ Z) H := hP
          have hDc : va_D A ([hq_o6 h ha hv (nI (q + Wl.length)), hq_ai ha (G 0) 247 (hq_wr upd th q (Wl.map Prod.fst)), hq_ai hv (G 0) 247 (hq_wr upd tv q (Wl.map Prod.snd)), hq_o1 x xa xb xc (nI k) (hq_z lab) lb im, hq_ai xa (G 0) 12 fh, hq_ai xb (G 0) 12 fv, hq_ai xc (G 2) 12 fl] ++ Z) := hD
          refine hq_vF (hq_rV (As := [.ref x, .int (nI f), .int rt]) (rest := []) hx hb hml hown hts (c_Terms_addPairs l D G A Z h ha hv (hq_wr upd th q (Wl.map Prod.fst)) (hq_wr upd tv q (Wl.map Prod.snd)) (q + Wl.length) x xa xb xc fh fv fl k lab lb im f rt (by first | assumption | omega) (by first | assumption | omega) (by first | assumption | omega)) yy_Terms_addPairs lk_Terms_51 hA hK hN hS hPc hDc 0 6 rfl rfl rfl hl.1 rfl (Nat.le_of_ble_eq_true rfl) d_Terms_addCrossing_28 ⟨by decide, by decide⟩ ⟨by decide, by decide⟩) hS (fun H locs hP hD hS => ?_)
          have hP : va_P D hq_cl ([hq_o6 h ha hv (nI ((q + Wl.length) + (hq_prs0 fh fv fl k f rt).length)), hq_ai ha (G 0) 247 (hq_wr upd (hq_wr upd th q (Wl.map Prod.fst)) (q + Wl.length) ((hq_prs0 fh fv fl k f rt).map Prod.fst)), hq_ai hv (G 0) 247 (hq_wr upd (hq_wr upd tv q (Wl.map Prod.snd)) (q + Wl.length) ((hq_prs0 fh fv fl k f rt).map Prod.snd)), hq_o1 x xa xb xc (nI k) (hq_z lab) lb im, hq_ai xa (G 0) 12 fh, hq_ai xb (G 0) 12 fv, hq_ai xc (G 2) 12 fl] ++ Z) H := hP
          have hD : va_D A ([hq_o6 h ha hv (nI ((q + Wl.length) + (hq_prs0 fh fv fl k f rt).length)), hq_ai ha (G 0) 247 (hq_wr upd (hq_wr upd th q (Wl.map Prod.fst)) (q + Wl.length) ((hq_prs0 fh fv fl k f rt).map Prod.fst)), hq_ai hv (G 0) 247 (hq_wr upd (hq_wr upd tv q (Wl.map Prod.snd)) (q + Wl.length) ((hq_prs0 fh fv fl k f rt).map Prod.snd)), hq_o1 x xa xb xc (nI k) (hq_z lab) lb im, hq_ai xa (G 0) 12 fh, hq_ai xb (G 0) 12 fv, hq_ai xc (G 2) 12 fl] ++ Z) := hD
          refine lv_iinc (nL := 5) (k := 4) (v := nI (f + 1)) (lv' := [(4, .int (nI (f + 1))), (0, .ref h), (1, .ref x), (2, .int lf), (3, .int rt)]) hx hb d_Terms_addCrossing_31 hl rfl (nI_add f 1) (by decide) rfl (fun ls hl => ?_)
          refine lv_goto (tgt := 3) hx hb d_Terms_addCrossing_34 rfl ?_
          have e9_0 : (nI (q + (Wl ++ hq_prs0 fh fv fl k f rt).length)) = (nI ((q + Wl.length) + (hq_prs0 fh fv fl k f rt).length)) := by first | exact hq_wrF | exact hq_wrF0 | exact hq_wrG | exact hq_wrG0 | exact hq_wrN | exact hq_wrN0 | exact hq_wrM | exact hq_wrM0 | (rw [hF, x, List.append_nil]) | rfl
          have e9_1 : (hq_wr upd th q ((Wl ++ hq_prs0 fh fv fl k f rt).map Prod.fst)) = (hq_wr upd (hq_wr upd th q (Wl.map Prod.fst)) (q + Wl.length) ((hq_prs0 fh fv fl k f rt).map Prod.fst)) := by first | exact hq_wrF | exact hq_wrF0 | exact hq_wrG | exact hq_wrG0 | exact hq_wrN | exact hq_wrN0 | exact hq_wrM | exact hq_wrM0 | (rw [hF, x, List.append_nil]) | rfl
          have e9_2 : (hq_wr upd tv q ((Wl ++ hq_prs0 fh fv fl k f rt).map Prod.snd)) = (hq_wr upd (hq_wr upd tv q (Wl.map Prod.snd)) (q + Wl.length) ((hq_prs0 fh fv fl k f rt).map Prod.snd)) := by first | exact hq_wrF | exact hq_wrF0 | exact hq_wrG | exact hq_wrG0 | exact hq_wrN | exact hq_wrN0 | exact hq_wrM | exact hq_wrM0 | (rw [hF, x, List.append_nil]) | rfl
          have hP : va_P D hq_cl ([hq_o6 h ha hv (nI (q + (Wl ++ hq_prs0 fh fv fl k f rt).length)), hq_ai ha (G 0) 247 (hq_wr upd th q ((Wl ++ hq_prs0 fh fv fl k f rt).map Prod.fst)), hq_ai hv (G 0) 247 (hq_wr upd tv q ((Wl ++ hq_prs0 fh fv fl k f rt).map Prod.snd)), hq_o1 x xa xb xc (nI k) (hq_z lab) lb im, hq_ai xa (G 0) 12 fh, hq_ai xb (G 0) 12 fv, hq_ai xc (G 2) 12 fl] ++ Z) H := by rw [e9_0, e9_1, e9_2]; exact hP
          have hD : va_D A ([hq_o6 h ha hv (nI (q + (Wl ++ hq_prs0 fh fv fl k f rt).length)), hq_ai ha (G 0) 247 (hq_wr upd th q ((Wl ++ hq_prs0 fh fv fl k f rt).map Prod.fst)), hq_ai hv (G 0) 247 (hq_wr upd tv q ((Wl ++ hq_prs0 fh fv fl k f rt).map Prod.snd)), hq_o1 x xa xb xc (nI k) (hq_z lab) lb im, hq_ai xa (G 0) 12 fh, hq_ai xb (G 0) 12 fv, hq_ai xc (G 2) 12 fl] ++ Z) := by rw [e9_0, e9_1, e9_2]; exact hD
          exact ih _ (by omega) (f + 1) (Wl ++ hq_prs0 fh fv fl k f rt) ls H locs rfl (by first | assumption | omega) (by rw [hF, hq_cr_yes (f := f) (j := k) (by omega) c20, List.append_assoc]) (lv_sub hl [1, 2, 3, 4, 0] rfl) hP hD hS
  have e9_0 : (nI (q + ([] : List (Int32 × Int32)).length)) = (nI q) := by first | exact hq_wrF | exact hq_wrF0 | exact hq_wrG | exact hq_wrG0 | exact hq_wrN | exact hq_wrN0 | exact hq_wrM | exact hq_wrM0 | (rw [hF, x, List.append_nil]) | rfl
  have e9_1 : (hq_wr upd th q (([] : List (Int32 × Int32)).map Prod.fst)) = th := by first | exact hq_wrF | exact hq_wrF0 | exact hq_wrG | exact hq_wrG0 | exact hq_wrN | exact hq_wrN0 | exact hq_wrM | exact hq_wrM0 | (rw [hF, x, List.append_nil]) | rfl
  have e9_2 : (hq_wr upd tv q (([] : List (Int32 × Int32)).map Prod.snd)) = tv := by first | exact hq_wrF | exact hq_wrF0 | exact hq_wrG | exact hq_wrG0 | exact hq_wrN | exact hq_wrN0 | exact hq_wrM | exact hq_wrM0 | (rw [hF, x, List.append_nil]) | rfl
  have hP : va_P D hq_cl ([hq_o6 h ha hv (nI (q + ([] : List (Int32 × Int32)).length)), hq_ai ha (G 0) 247 (hq_wr upd th q (([] : List (Int32 × Int32)).map Prod.fst)), hq_ai hv (G 0) 247 (hq_wr upd tv q (([] : List (Int32 × Int32)).map Prod.snd)), hq_o1 x xa xb xc (nI k) (hq_z lab) lb im, hq_ai xa (G 0) 12 fh, hq_ai xb (G 0) 12 fv, hq_ai xc (G 2) 12 fl] ++ Z) H := by rw [e9_0, e9_1, e9_2]; exact hP
  have hD : va_D A ([hq_o6 h ha hv (nI (q + ([] : List (Int32 × Int32)).length)), hq_ai ha (G 0) 247 (hq_wr upd th q (([] : List (Int32 × Int32)).map Prod.fst)), hq_ai hv (G 0) 247 (hq_wr upd tv q (([] : List (Int32 × Int32)).map Prod.snd)), hq_o1 x xa xb xc (nI k) (hq_z lab) lb im, hq_ai xa (G 0) 12 fh, hq_ai xb (G 0) 12 fv, hq_ai xc (G 2) 12 fl] ++ Z) := by rw [e9_0, e9_1, e9_2]; exact hD
  exact cut3 _ 0 ([] : List (Int32 × Int32)) ls H locs rfl (by first | assumption | omega) (rfl) (lv_sub hl [1, 2, 3, 4, 0] rfl) hP hD hS
theorem d_Terms_expand_0 : decode b_Terms_expand 0 = .ok (.aload_n 0, 1) := by decide +kernel
theorem d_Terms_expand_1 : decode b_Terms_expand 1 = .ok (.iconst 0, 1) := by decide +kernel
theorem d_Terms_expand_2 : decode b_Terms_expand 2 = .ok (.putfield 18, 3) := by decide +kernel
theorem d_Terms_expand_5 : decode b_Terms_expand 5 = .ok (.iconst 0, 1) := by decide +kernel
theorem d_Terms_expand_6 : decode b_Terms_expand 6 = .ok (.istore_n 3, 1) := by decide +kernel
theorem d_Terms_expand_7 : decode b_Terms_expand 7 = .ok (.iload_n 3, 1) := by decide +kernel
theorem d_Terms_expand_8 : decode b_Terms_expand 8 = .ok (.aload_n 1, 1) := by decide +kernel
theorem d_Terms_expand_9 : decode b_Terms_expand 9 = .ok (.getfield 22, 3) := by decide +kernel
theorem d_Terms_expand_12 : decode b_Terms_expand 12 = .ok (.if_icmp .ge (25), 3) := by decide +kernel
theorem d_Terms_expand_15 : decode b_Terms_expand 15 = .ok (.aload_n 0, 1) := by decide +kernel
theorem d_Terms_expand_16 : decode b_Terms_expand 16 = .ok (.aload_n 1, 1) := by decide +kernel
theorem d_Terms_expand_17 : decode b_Terms_expand 17 = .ok (.getfield 27, 3) := by decide +kernel
theorem d_Terms_expand_20 : decode b_Terms_expand 20 = .ok (.iload_n 3, 1) := by decide +kernel
theorem d_Terms_expand_21 : decode b_Terms_expand 21 = .ok (.iaload, 1) := by decide +kernel
theorem d_Terms_expand_22 : decode b_Terms_expand 22 = .ok (.aload_n 1, 1) := by decide +kernel
theorem d_Terms_expand_23 : decode b_Terms_expand 23 = .ok (.getfield 28, 3) := by decide +kernel
theorem d_Terms_expand_26 : decode b_Terms_expand 26 = .ok (.iload_n 3, 1) := by decide +kernel
theorem d_Terms_expand_27 : decode b_Terms_expand 27 = .ok (.iaload, 1) := by decide +kernel
theorem d_Terms_expand_28 : decode b_Terms_expand 28 = .ok (.invokevirtual 29, 3) := by decide +kernel
theorem d_Terms_expand_31 : decode b_Terms_expand 31 = .ok (.iinc 3 (1), 3) := by decide +kernel
theorem d_Terms_expand_34 : decode b_Terms_expand 34 = .ok (.goto (-27), 3) := by decide +kernel
theorem d_Terms_expand_37 : decode b_Terms_expand 37 = .ok (.iconst 0, 1) := by decide +kernel
theorem d_Terms_expand_38 : decode b_Terms_expand 38 = .ok (.istore_n 3, 1) := by decide +kernel
theorem d_Terms_expand_39 : decode b_Terms_expand 39 = .ok (.iload_n 3, 1) := by decide +kernel
theorem d_Terms_expand_40 : decode b_Terms_expand 40 = .ok (.aload_n 2, 1) := by decide +kernel
theorem d_Terms_expand_41 : decode b_Terms_expand 41 = .ok (.getfield 33, 3) := by decide +kernel
theorem d_Terms_expand_44 : decode b_Terms_expand 44 = .ok (.if_icmp .ge (26), 3) := by decide +kernel
theorem d_Terms_expand_47 : decode b_Terms_expand 47 = .ok (.aload_n 0, 1) := by decide +kernel
theorem d_Terms_expand_48 : decode b_Terms_expand 48 = .ok (.aload_n 1, 1) := by decide +kernel
theorem d_Terms_expand_49 : decode b_Terms_expand 49 = .ok (.aload_n 2, 1) := by decide +kernel
theorem d_Terms_expand_50 : decode b_Terms_expand 50 = .ok (.getfield 36, 3) := by decide +kernel
theorem d_Terms_expand_53 : decode b_Terms_expand 53 = .ok (.iload_n 3, 1) := by decide +kernel
theorem d_Terms_expand_54 : decode b_Terms_expand 54 = .ok (.caload, 1) := by decide +kernel
theorem d_Terms_expand_55 : decode b_Terms_expand 55 = .ok (.aload_n 2, 1) := by decide +kernel
theorem d_Terms_expand_56 : decode b_Terms_expand 56 = .ok (.getfield 40, 3) := by decide +kernel
theorem d_Terms_expand_59 : decode b_Terms_expand 59 = .ok (.iload_n 3, 1) := by decide +kernel
theorem d_Terms_expand_60 : decode b_Terms_expand 60 = .ok (.caload, 1) := by decide +kernel
theorem d_Terms_expand_61 : decode b_Terms_expand 61 = .ok (.invokevirtual 43, 3) := by decide +kernel
theorem d_Terms_expand_64 : decode b_Terms_expand 64 = .ok (.iinc 3 (1), 3) := by decide +kernel
theorem d_Terms_expand_67 : decode b_Terms_expand 67 = .ok (.goto (-28), 3) := by decide +kernel
theorem d_Terms_expand_70 : decode b_Terms_expand 70 = .ok (.aload_n 0, 1) := by decide +kernel
theorem d_Terms_expand_71 : decode b_Terms_expand 71 = .ok (.ldc 47, 2) := by decide +kernel
theorem d_Terms_expand_73 : decode b_Terms_expand 73 = .ok (.bipush (100), 2) := by decide +kernel
theorem d_Terms_expand_75 : decode b_Terms_expand 75 = .ok (.invokevirtual 29, 3) := by decide +kernel
theorem d_Terms_expand_78 : decode b_Terms_expand 78 = .ok (.return_, 1) := by decide +kernel
set_option maxHeartbeats 4000000 in
set_option maxRecDepth 100000 in
theorem c_Terms_expand (l : Launch) (D : va_G) (G : Nat → ClassId) (A : Nat → Prop) (Z : va_W) (h : Nat) (ha : Nat) (hv : Nat) (th : Nat → Int32) (tv : Nat → Int32) (q : Nat) (x : Nat) (xa : Nat) (xb : Nat) (xc : Nat) (fh : Nat → Int32) (fv : Nat → Int32) (fl : Nat → Int32) (k : Nat) (lab : Bool) (lb : Int32) (im : Int32) (y : Nat) (ya : Nat) (yb : Nat) (cl : Nat → Int32) (cr : Nat → Int32) (nc : Nat) (cd : Bool) (hk : k ≤ 12) (hnc : nc ≤ 3) (hq : (hq_tms fh fv fl k cl cr nc).length ≤ 247) : hq_FV l D G A y_Terms_expand b_Terms_expand 4 4 [.ref h, .ref x, .ref y] ([hq_o6 h ha hv (nI q), hq_ai ha (G 0) 247 th, hq_ai hv (G 0) 247 tv, hq_o1 x xa xb xc (nI k) (hq_z lab) lb im, hq_ai xa (G 0) 12 fh, hq_ai xb (G 0) 12 fv, hq_ai xc (G 2) 12 fl, hq_o0 y ya yb (nI nc) (hq_z cd), hq_ai ya (G 2) 3 cl, hq_ai yb (G 2) 3 cr] ++ Z) ([hq_o6 h ha hv (nI ((hq_tms fh fv fl k cl cr nc).length)), hq_ai ha (G 0) 247 (hq_wr upd th 0 ((hq_tms fh fv fl k cl cr nc).map Prod.fst)), hq_ai hv (G 0) 247 (hq_wr upd tv 0 ((hq_tms fh fv fl k cl cr nc).map Prod.snd)), hq_o1 x xa xb xc (nI k) (hq_z lab) lb im, hq_ai xa (G 0) 12 fh, hq_ai xb (G 0) 12 fv, hq_ai xc (G 2) 12 fl, hq_o0 y ya yb (nI nc) (hq_z cd), hq_ai ya (G 2) 3 cl, hq_ai yb (G 2) 3 cr] ++ Z) := by
  refine hq_bV (by decide) (Nat.le_of_ble_eq_true rfl) ?_
  intro p e s m args below meth c Q hx hb hml hts hown hA hK hN hin hret ls H locs hl hP hD hS
  have hown : s.vm.findClass "HashedLearner$Terms" = some m.cls := hown
  have hl : lv_has ls 4 [(0, .ref h), (1, .ref x), (2, .ref y)] := hl
  have hz0 := congrArg List.length (hq_tms_eq fh fv fl k cl cr nc)
  rw [List.length_append, List.length_append, List.length_singleton] at hz0
  refine lv_aload_n hx hb d_Terms_expand_0 rfl (lv_at hl 0 rfl) ?_
  refine lv_iconst (v := nI 0) hx hb d_Terms_expand_1 (by decide) ?_
  refine va_put (D := D) (ci := 6) (v := .int (nI 0)) (ty := .int) (C := R_Terms) (T := F_Terms) (N := 3) hx hb hts uw_Terms t_Terms t_Terms_ok n_Terms hown hK hP hD hS 0 rfl rfl 2 (by decide) (hts _ fl_Terms_18) (fun _ h9 => h9) rfl (by decide +kernel) (rfl) (rfl) (Nat.le_of_ble_eq_true rfl) d_Terms_expand_2 (fun H locs hP hD hS => ?_)
  have hP : va_P D hq_cl ([hq_o6 h ha hv (nI 0), hq_ai ha (G 0) 247 th, hq_ai hv (G 0) 247 tv, hq_o1 x xa xb xc (nI k) (hq_z lab) lb im, hq_ai xa (G 0) 12 fh, hq_ai xb (G 0) 12 fv, hq_ai xc (G 2) 12 fl, hq_o0 y ya yb (nI nc) (hq_z cd), hq_ai ya (G 2) 3 cl, hq_ai yb (G 2) 3 cr] ++ Z) H := hP
  have hD : va_D A ([hq_o6 h ha hv (nI 0), hq_ai ha (G 0) 247 th, hq_ai hv (G 0) 247 tv, hq_o1 x xa xb xc (nI k) (hq_z lab) lb im, hq_ai xa (G 0) 12 fh, hq_ai xb (G 0) 12 fv, hq_ai xc (G 2) 12 fl, hq_o0 y ya yb (nI nc) (hq_z cd), hq_ai ya (G 2) 3 cl, hq_ai yb (G 2) 3 cr] ++ Z) := hD
  refine lv_iconst (v := nI 0) hx hb d_Terms_expand_5 (by decide) ?_
  refine lv_istore_n (nL := 4) (lv' := [(3, .int (nI 0)), (0, .ref h), (1, .ref x), (2, .ref y)]) hx hb d_Terms_expand_6 rfl hl (by decide) rfl (fun ls hl => ?_)
  have cut7 : ∀ (kz : Nat) (f : Nat) (Wl : List (Int32 × Int32)) (ls : Array Slot) (H : Heap) (locs : List Loc), k - f = kz → (f ≤ k) → (hq_fs fh fv 0 k = Wl ++ hq_fs fh fv f (k - f)) → lv_has ls 4 [(0, .ref h), (1, .ref x), (2, .ref y), (3, .int (nI f))] → va_P D hq_cl ([hq_o6 h ha hv (nI (Wl.length)), hq_ai ha (G 0) 247 (hq_wr upd th 0 (Wl.map Prod.fst)), hq_ai hv (G 0) 247 (hq_wr upd tv 0 (Wl.map Prod.snd)), hq_o1 x xa xb xc (nI k) (hq_z lab) lb im, hq_ai xa (G 0) 12 fh, hq_ai xb (G 0) 12 fv, hq_ai xc (G 2) 12 fl, hq_o0 y ya yb (nI nc) (hq_z cd), hq_ai ya (G 2) 3 cl, hq_ai yb (G 2) 3 cr] ++ Z) H → va_D A ([hq_o6 h ha hv (nI (Wl.length)), hq_ai ha (G 0) 247 (hq_wr upd th 0 (Wl.map Prod.fst)), hq_ai hv (G 0) 247 (hq_wr upd tv 0 (Wl.map Prod.snd)), hq_o1 x xa xb xc (nI k) (hq_z lab) lb im, hq_ai xa (G 0) 12 fh, hq_ai xb (G 0) 12 fv, hq_ai xc (G 2) 12 fl, hq_o0 y ya yb (nI nc) (hq_z cd), hq_ai ya (G 2) 3 cl, hq_ai yb (G 2) 3 cr] ++ Z) → va_S A s.heap H locs → W p l e (hq_rm 4 0 0) s m args below meth c H locs 0 0 Q (F0 m 7 ls []) := by
    intro kz
    induction kz using Nat.strongRecOn with
    | ind kz ih =>
      intro f Wl ls H locs hkz hfk hF hl hP hD hS
      subst hkz
      refine lv_iload_n hx hb d_Terms_expand_7 rfl (lv_at hl 3 rfl) ?_
      refine lv_aload_n hx hb d_Terms_expand_8 rfl (lv_at hl 1 rfl) ?_
      refine va_get (D := D) (ci := 1) (v := .int (nI k)) (C := R_Example) (T := F_Example) (N := 7) hx hb hts uw_Example hown hK hP 3 rfl rfl 3 (by decide) (hts _ fl_Terms_22) (fun _ h9 => h9) rfl d_Terms_expand_9 ?_
      refine lv_icmp_ge (tgt := 37) hx hb d_Terms_expand_12 rfl (fun c12 => ?_) (fun c12 => ?_)
      · -- 12 taken
        have c12 : k ≤ f := (nI_leI (a := k) (b := f) (by omega) (by omega)).mp c12
        refine lv_iconst (v := nI 0) hx hb d_Terms_expand_37 (by decide) ?_
        refine lv_istore_n (nL := 4) (lv' := [(3, .int (nI 0)), (0, .ref h), (1, .ref x), (2, .ref y)]) hx hb d_Terms_expand_38 rfl hl (by decide) rfl (fun ls hl => ?_)
        have cut39 : ∀ (kz : Nat) (g : Nat) (Wl : List (Int32 × Int32)) (ls : Array Slot) (H : Heap) (locs : List Loc), nc - g = kz → (g ≤ nc) → (hq_fs fh fv 0 k ++ hq_crs fh fv fl k cl cr 0 nc = Wl ++ hq_crs fh fv fl k cl cr g (nc - g)) → lv_has ls 4 [(0, .ref h), (1, .ref x), (2, .ref y), (3, .int (nI g))] → va_P D hq_cl ([hq_o6 h ha hv (nI (Wl.length)), hq_ai ha (G 0) 247 (hq_wr upd th 0 (Wl.map Prod.fst)), hq_ai hv (G 0) 247 (hq_wr upd tv 0 (Wl.map Prod.snd)), hq_o1 x xa xb xc (nI k) (hq_z lab) lb im, hq_ai xa (G 0) 12 fh, hq_ai xb (G 0) 12 fv, hq_ai xc (G 2) 12 fl, hq_o0 y ya yb (nI nc) (hq_z cd), hq_ai ya (G 2) 3 cl, hq_ai yb (G 2) 3 cr] ++ Z) H → va_D A ([hq_o6 h ha hv (nI (Wl.length)), hq_ai ha (G 0) 247 (hq_wr upd th 0 (Wl.map Prod.fst)), hq_ai hv (G 0) 247 (hq_wr upd tv 0 (Wl.map Prod.snd)), hq_o1 x xa xb xc (nI k) (hq_z lab) lb im, hq_ai xa (G 0) 12 fh, hq_ai xb (G 0) 12 fv, hq_ai xc (G 2) 12 fl, hq_o0 y ya yb (nI nc) (hq_z cd), hq_ai ya (G 2) 3 cl, hq_ai yb (G 2) 3 cr] ++ Z) → va_S A s.heap H locs → W p l e (hq_rm 4 0 0) s m args below meth c H locs 0 0 Q (F0 m 39 ls []) := by
          intro kz
          induction kz using Nat.strongRecOn with
          | ind kz ih =>
            intro g Wl ls H locs hkz hgk hF hl hP hD hS
            subst hkz
            refine lv_iload_n hx hb d_Terms_expand_39 rfl (lv_at hl 3 rfl) ?_
            refine lv_aload_n hx hb d_Terms_expand_40 rfl (lv_at hl 2 rfl) ?_
            refine va_get (D := D) (ci := 0) (v := .int (nI nc)) (C := R_Crossings) (T := F_Crossings) (N := 4) hx hb hts uw_Crossings hown hK hP 7 rfl rfl 2 (by decide) (hts _ fl_Terms_33) (fun _ h9 => h9) rfl d_Terms_expand_41 ?_
            refine lv_icmp_ge (tgt := 70) hx hb d_Terms_expand_44 rfl (fun c44 => ?_) (fun c44 => ?_)
            · -- 44 taken
              have c44 : nc ≤ g := (nI_leI (a := nc) (b := g) (by omega) (by omega)).mp c44
              rw [hq_crs_end (g := g) (j := nc) (by omega), List.append_nil] at hF
              have hz := congrArg List.length hF
              rw [List.length_append] at hz
              refine lv_aload_n hx hb d_Terms_expand_70 rfl (lv_at hl 0 rfl) ?_
              refine lv_ldc (v := 11650396) hx hb hown (hts _ ki_Terms_47) d_Terms_expand_71 ?_
              refine lv_bipush (v := 100) hx hb d_Terms_expand_73 (by decide) ?_
              have hPc : va_P D hq_cl ([hq_o6 h ha hv (nI (Wl.length)), hq_ai ha (G 0) 247 (hq_wr upd th 0 (Wl.map Prod.fst)), hq_ai hv (G 0) 247 (hq_wr upd tv 0 (Wl.map Prod.snd))] ++ ([hq_o1 x xa xb xc (nI k) (hq_z lab) lb im, hq_ai xa (G 0) 12 fh, hq_ai xb (G 0) 12 fv, hq_ai xc (G 2) 12 fl, hq_o0 y ya yb (nI nc) (hq_z cd), hq_ai ya (G 2) 3 cl, hq_ai yb (G 2) 3 cr] ++ Z)) H := hP
              have hDc : va_D A ([hq_o6 h ha hv (nI (Wl.length)), hq_ai ha (G 0) 247 (hq_wr upd th 0 (Wl.map Prod.fst)), hq_ai hv (G 0) 247 (hq_wr upd tv 0 (Wl.map Prod.snd))] ++ ([hq_o1 x xa xb xc (nI k) (hq_z lab) lb im, hq_ai xa (G 0) 12 fh, hq_ai xb (G 0) 12 fv, hq_ai xc (G 2) 12 fl, hq_o0 y ya yb (nI nc) (hq_z cd), hq_ai ya (G 2) 3 cl, hq_ai yb (G 2) 3 cr] ++ Z)) := hD
              refine hq_vF (hq_rV (As := [.int 11650396, .int 100]) (rest := []) hx hb hml hown hts (c_Terms_add l D G A ([hq_o1 x xa xb xc (nI k) (hq_z lab) lb im, hq_ai xa (G 0) 12 fh, hq_ai xb (G 0) 12 fv, hq_ai xc (G 2) 12 fl, hq_o0 y ya yb (nI nc) (hq_z cd), hq_ai ya (G 2) 3 cl, hq_ai yb (G 2) 3 cr] ++ Z) h ha hv (hq_wr upd th 0 (Wl.map Prod.fst)) (hq_wr upd tv 0 (Wl.map Prod.snd)) Wl.length 11650396 100 (by first | assumption | omega)) yy_Terms_add lk_Terms_29 hA hK hN hS hPc hDc 0 6 rfl rfl rfl hl.1 rfl (Nat.le_of_ble_eq_true rfl) d_Terms_expand_75 ⟨by decide, by decide⟩ ⟨by decide, by decide⟩) hS (fun H locs hP hD hS => ?_)
              have hP : va_P D hq_cl ([hq_o6 h ha hv (nI (Wl.length + 1)), hq_ai ha (G 0) 247 (upd (hq_wr upd th 0 (Wl.map Prod.fst)) Wl.length 11650396), hq_ai hv (G 0) 247 (upd (hq_wr upd tv 0 (Wl.map Prod.snd)) Wl.length 100), hq_o1 x xa xb xc (nI k) (hq_z lab) lb im, hq_ai xa (G 0) 12 fh, hq_ai xb (G 0) 12 fv, hq_ai xc (G 2) 12 fl, hq_o0 y ya yb (nI nc) (hq_z cd), hq_ai ya (G 2) 3 cl, hq_ai yb (G 2) 3 cr] ++ Z) H := hP
              have hD : va_D A ([hq_o6 h ha hv (nI (Wl.length + 1)), hq_ai ha (G 0) 247 (upd (hq_wr upd th 0 (Wl.map Prod.fst)) Wl.length 11650396), hq_ai hv (G 0) 247 (upd (hq_wr upd tv 0 (Wl.map Prod.snd)) Wl.length 100), hq_o1 x xa xb xc (nI k) (hq_z lab) lb im, hq_ai xa (G 0) 12 fh, hq_ai xb (G 0) 12 fv, hq_ai xc (G 2) 12 fl, hq_o0 y ya yb (nI nc) (hq_z cd), hq_ai ya (G 2) 3 cl, hq_ai yb (G 2) 3 cr] ++ Z) := hD
              have e9_0 : (nI ((hq_tms fh fv fl k cl cr nc).length)) = (nI (Wl.length + 1)) := by rw [hq_tms_eq, hF]; first | exact hq_wrF0 (y := (11650396, 100)) | exact hq_wrN0
              have e9_1 : (hq_wr upd th 0 ((hq_tms fh fv fl k cl cr nc).map Prod.fst)) = (upd (hq_wr upd th 0 (Wl.map Prod.fst)) Wl.length 11650396) := by rw [hq_tms_eq, hF]; first | exact hq_wrF0 (y := (11650396, 100)) | exact hq_wrN0
              have e9_2 : (hq_wr upd tv 0 ((hq_tms fh fv fl k cl cr nc).map Prod.snd)) = (upd (hq_wr upd tv 0 (Wl.map Prod.snd)) Wl.length 100) := by rw [hq_tms_eq, hF]; first | exact hq_wrF0 (y := (11650396, 100)) | exact hq_wrN0
              have hP : va_P D hq_cl ([hq_o6 h ha hv (nI ((hq_tms fh fv fl k cl cr nc).length)), hq_ai ha (G 0) 247 (hq_wr upd th 0 ((hq_tms fh fv fl k cl cr nc).map Prod.fst)), hq_ai hv (G 0) 247 (hq_wr upd tv 0 ((hq_tms fh fv fl k cl cr nc).map Prod.snd)), hq_o1 x xa xb xc (nI k) (hq_z lab) lb im, hq_ai xa (G 0) 12 fh, hq_ai xb (G 0) 12 fv, hq_ai xc (G 2) 12 fl, hq_o0 y ya yb (nI nc) (hq_z cd), hq_ai ya (G 2) 3 cl, hq_ai yb (G 2) 3 cr] ++ Z) H := by rw [e9_0, e9_1, e9_2]; exact hP
              have hD : va_D A ([hq_o6 h ha hv (nI ((hq_tms fh fv fl k cl cr nc).length)), hq_ai ha (G 0) 247 (hq_wr upd th 0 ((hq_tms fh fv fl k cl cr nc).map Prod.fst)), hq_ai hv (G 0) 247 (hq_wr upd tv 0 ((hq_tms fh fv fl k cl cr nc).map Prod.snd)), hq_o1 x xa xb xc (nI k) (hq_z lab) lb im, hq_ai xa (G 0) 12 fh, hq_ai xb (G 0) 12 fv, hq_ai xc (G 2) 12 fl, hq_o0 y ya yb (nI nc) (hq_z cd), hq_ai ya (G 2) 3 cl, hq_ai yb (G 2) 3 cr] ++ Z) := by rw [e9_0, e9_1, e9_2]; exact hD
              exact hret () H locs 78 ls d_Terms_expand_78 (trivial) hP hD hS
            · -- 44 not taken
              have c44 : ¬ nc ≤ g := fun h => c44 ((nI_leI (a := nc) (b := g) (by omega) (by omega)).mpr h)
              have hz := congrArg List.length hF
              rw [hq_crs_go (g := g) (j := nc) (by omega), List.length_append, List.length_append, List.length_append] at hz
              refine lv_aload_n hx hb d_Terms_expand_47 rfl (lv_at hl 0 rfl) ?_
              refine lv_aload_n hx hb d_Terms_expand_48 rfl (lv_at hl 1 rfl) ?_
              refine lv_aload_n hx hb d_Terms_expand_49 rfl (lv_at hl 2 rfl) ?_
              refine va_get (D := D) (ci := 0) (v := .ref ya) (C := R_Crossings) (T := F_Crossings) (N := 4) hx hb hts uw_Crossings hown hK hP 7 rfl rfl 0 (by decide) (hts _ fl_Terms_36) (fun _ h9 => h9) rfl d_Terms_expand_50 ?_
              refine lv_iload_n hx hb d_Terms_expand_53 rfl (lv_at hl 3 rfl) ?_
              refine hq_cald (j := g) hx hb hK hP 8 rfl (by omega) (by omega) d_Terms_expand_54 ?_
              refine lv_aload_n hx hb d_Terms_expand_55 rfl (lv_at hl 2 rfl) ?_
              refine va_get (D := D) (ci := 0) (v := .ref yb) (C := R_Crossings) (T := F_Crossings) (N := 4) hx hb hts uw_Crossings hown hK hP 7 rfl rfl 1 (by decide) (hts _ fl_Terms_40) (fun _ h9 => h9) rfl d_Terms_expand_56 ?_
              refine lv_iload_n hx hb d_Terms_expand_59 rfl (lv_at hl 3 rfl) ?_
              refine hq_cald (j := g) hx hb hK hP 9 rfl (by omega) (by omega) d_Terms_expand_60 ?_
              have hPc : va_P D hq_cl ([hq_o6 h ha hv (nI (Wl.length)), hq_ai ha (G 0) 247 (hq_wr upd th 0 (Wl.map Prod.fst)), hq_ai hv (G 0) 247 (hq_wr upd tv 0 (Wl.map Prod.snd)), hq_o1 x xa xb xc (nI k) (hq_z lab) lb im, hq_ai xa (G 0) 12 fh, hq_ai xb (G 0) 12 fv, hq_ai xc (G 2) 12 fl] ++ ([hq_o0 y ya yb (nI nc) (hq_z cd), hq_ai ya (G 2) 3 cl, hq_ai yb (G 2) 3 cr] ++ Z)) H := hP
              have hDc : va_D A ([hq_o6 h ha hv (nI (Wl.length)), hq_ai ha (G 0) 247 (hq_wr upd th 0 (Wl.map Prod.fst)), hq_ai hv (G 0) 247 (hq_wr upd tv 0 (Wl.map Prod.snd)), hq_o1 x xa xb xc (nI k) (hq_z lab) lb im, hq_ai xa (G 0) 12 fh, hq_ai xb (G 0) 12 fv, hq_ai xc (G 2) 12 fl] ++ ([hq_o0 y ya yb (nI nc) (hq_z cd), hq_ai ya (G 2) 3 cl, hq_ai yb (G 2) 3 cr] ++ Z)) := hD
              refine hq_vF (hq_rV (As := [.ref x, .int (cl g), .int (cr g)]) (rest := []) hx hb hml hown hts (c_Terms_addCrossing l D G A ([hq_o0 y ya yb (nI nc) (hq_z cd), hq_ai ya (G 2) 3 cl, hq_ai yb (G 2) 3 cr] ++ Z) h ha hv (hq_wr upd th 0 (Wl.map Prod.fst)) (hq_wr upd tv 0 (Wl.map Prod.snd)) Wl.length x xa xb xc fh fv fl k lab lb im (cl g) (cr g) (by first | assumption | omega) (by first | assumption | omega)) yy_Terms_addCrossing lk_Terms_43 hA hK hN hS hPc hDc 0 6 rfl rfl rfl hl.1 rfl (Nat.le_of_ble_eq_true rfl) d_Terms_expand_61 ⟨by decide, by decide⟩ ⟨by decide, by decide⟩) hS (fun H locs hP hD hS => ?_)
              have hP : va_P D hq_cl ([hq_o6 h ha hv (nI (Wl.length + (hq_cr fh fv fl k (cl g) (cr g) 0 k).length)), hq_ai ha (G 0) 247 (hq_wr upd (hq_wr upd th 0 (Wl.map Prod.fst)) Wl.length ((hq_cr fh fv fl k (cl g) (cr g) 0 k).map Prod.fst)), hq_ai hv (G 0) 247 (hq_wr upd (hq_wr upd tv 0 (Wl.map Prod.snd)) Wl.length ((hq_cr fh fv fl k (cl g) (cr g) 0 k).map Prod.snd)), hq_o1 x xa xb xc (nI k) (hq_z lab) lb im, hq_ai xa (G 0) 12 fh, hq_ai xb (G 0) 12 fv, hq_ai xc (G 2) 12 fl, hq_o0 y ya yb (nI nc) (hq_z cd), hq_ai ya (G 2) 3 cl, hq_ai yb (G 2) 3 cr] ++ Z) H := hP
              have hD : va_D A ([hq_o6 h ha hv (nI (Wl.length + (hq_cr fh fv fl k (cl g) (cr g) 0 k).length)), hq_ai ha (G 0) 247 (hq_wr upd (hq_wr upd th 0 (Wl.map Prod.fst)) Wl.length ((hq_cr fh fv fl k (cl g) (cr g) 0 k).map Prod.fst)), hq_ai hv (G 0) 247 (hq_wr upd (hq_wr upd tv 0 (Wl.map Prod.snd)) Wl.length ((hq_cr fh fv fl k (cl g) (cr g) 0 k).map Prod.snd)), hq_o1 x xa xb xc (nI k) (hq_z lab) lb im, hq_ai xa (G 0) 12 fh, hq_ai xb (G 0) 12 fv, hq_ai xc (G 2) 12 fl, hq_o0 y ya yb (nI nc) (hq_z cd), hq_ai ya (G 2) 3 cl, hq_ai yb (G 2) 3 cr] ++ Z) := hD
              refine lv_iinc (nL := 4) (k := 3) (v := nI (g + 1)) (lv' := [(3, .int (nI (g + 1))), (0, .ref h), (1, .ref x), (2, .ref y)]) hx hb d_Terms_expand_64 hl rfl (nI_add g 1) (by decide) rfl (fun ls hl => ?_)
              refine lv_goto (tgt := 39) hx hb d_Terms_expand_67 rfl ?_
              have e9_0 : (nI ((Wl ++ hq_cr fh fv fl k (cl g) (cr g) 0 k).length)) = (nI (Wl.length + (hq_cr fh fv fl k (cl g) (cr g) 0 k).length)) := by first | exact hq_wrF | exact hq_wrF0 | exact hq_wrG | exact hq_wrG0 | exact hq_wrN | exact hq_wrN0 | exact hq_wrM | exact hq_wrM0 | (rw [hF, x, List.append_nil]) | rfl
              have e9_1 : (hq_wr upd th 0 ((Wl ++ hq_cr fh fv fl k (cl g) (cr g) 0 k).map Prod.fst)) = (hq_wr upd (hq_wr upd th 0 (Wl.map Prod.fst)) Wl.length ((hq_cr fh fv fl k (cl g) (cr g) 0 k).map Prod.fst)) := by first | exact hq_wrF | exact hq_wrF0 | exact hq_wrG | exact hq_wrG0 | exact hq_wrN | exact hq_wrN0 | exact hq_wrM | exact hq_wrM0 | (rw [hF, x, List.append_nil]) | rfl
              have e9_2 : (hq_wr upd tv 0 ((Wl ++ hq_cr fh fv fl k (cl g) (cr g) 0 k).map Prod.snd)) = (hq_wr upd (hq_wr upd tv 0 (Wl.map Prod.snd)) Wl.length ((hq_cr fh fv fl k (cl g) (cr g) 0 k).map Prod.snd)) := by first | exact hq_wrF | exact hq_wrF0 | exact hq_wrG | exact hq_wrG0 | exact hq_wrN | exact hq_wrN0 | exact hq_wrM | exact hq_wrM0 | (rw [hF, x, List.append_nil]) | rfl
              have hP : va_P D hq_cl ([hq_o6 h ha hv (nI ((Wl ++ hq_cr fh fv fl k (cl g) (cr g) 0 k).length)), hq_ai ha (G 0) 247 (hq_wr upd th 0 ((Wl ++ hq_cr fh fv fl k (cl g) (cr g) 0 k).map Prod.fst)), hq_ai hv (G 0) 247 (hq_wr upd tv 0 ((Wl ++ hq_cr fh fv fl k (cl g) (cr g) 0 k).map Prod.snd)), hq_o1 x xa xb xc (nI k) (hq_z lab) lb im, hq_ai xa (G 0) 12 fh, hq_ai xb (G 0) 12 fv, hq_ai xc (G 2) 12 fl, hq_o0 y ya yb (nI nc) (hq_z cd), hq_ai ya (G 2) 3 cl, hq_ai yb (G 2) 3 cr] ++ Z) H := by rw [e9_0, e9_1, e9_2]; exact hP
              have hD : va_D A ([hq_o6 h ha hv (nI ((Wl ++ hq_cr fh fv fl k (cl g) (cr g) 0 k).length)), hq_ai ha (G 0) 247 (hq_wr upd th 0 ((Wl ++ hq_cr fh fv fl k (cl g) (cr g) 0 k).map Prod.fst)), hq_ai hv (G 0) 247 (hq_wr upd tv 0 ((Wl ++ hq_cr fh fv fl k (cl g) (cr g) 0 k).map Prod.snd)), hq_o1 x xa xb xc (nI k) (hq_z lab) lb im, hq_ai xa (G 0) 12 fh, hq_ai xb (G 0) 12 fv, hq_ai xc (G 2) 12 fl, hq_o0 y ya yb (nI nc) (hq_z cd), hq_ai ya (G 2) 3 cl, hq_ai yb (G 2) 3 cr] ++ Z) := by rw [e9_0, e9_1, e9_2]; exact hD
              exact ih _ (by omega) (g + 1) (Wl ++ hq_cr fh fv fl k (cl g) (cr g) 0 k) ls H locs rfl (by first | assumption | omega) (by rw [hF, hq_crs_go (g := g) (j := nc) (by omega), List.append_assoc]) (lv_sub hl [1, 2, 3, 0] rfl) hP hD hS
        exact cut39 _ 0 Wl ls H locs rfl (by first | assumption | omega) (by rw [hF, hq_fs_end (f := f) (j := k) (by omega), List.append_nil]; rfl) (lv_sub hl [1, 2, 3, 0] rfl) hP hD hS
      · -- 12 not taken
        have c12 : ¬ k ≤ f := fun h => c12 ((nI_leI (a := k) (b := f) (by omega) (by omega)).mpr h)
        have hz := congrArg List.length hF
        rw [hq_fs_go (f := f) (j := k) (by omega), List.length_append, List.length_cons] at hz
        refine lv_aload_n hx hb d_Terms_expand_15 rfl (lv_at hl 0 rfl) ?_
        refine lv_aload_n hx hb d_Terms_expand_16 rfl (lv_at hl 1 rfl) ?_
        refine va_get (D := D) (ci := 1) (v := .ref xa) (C := R_Example) (T := F_Example) (N := 7) hx hb hts uw_Example hown hK hP 3 rfl rfl 0 (by decide) (hts _ fl_Terms_27) (fun _ h9 => h9) rfl d_Terms_expand_17 ?_
        refine lv_iload_n hx hb d_Terms_expand_20 rfl (lv_at hl 3 rfl) ?_
        refine hq_iald (j := f) hx hb hK hP 4 rfl (by omega) (by omega) d_Terms_expand_21 ?_
        refine lv_aload_n hx hb d_Terms_expand_22 rfl (lv_at hl 1 rfl) ?_
        refine va_get (D := D) (ci := 1) (v := .ref xb) (C := R_Example) (T := F_Example) (N := 7) hx hb hts uw_Example hown hK hP 3 rfl rfl 1 (by decide) (hts _ fl_Terms_28) (fun _ h9 => h9) rfl d_Terms_expand_23 ?_
        refine lv_iload_n hx hb d_Terms_expand_26 rfl (lv_at hl 3 rfl) ?_
        refine hq_iald (j := f) hx hb hK hP 5 rfl (by omega) (by omega) d_Terms_expand_27 ?_
        have hPc : va_P D hq_cl ([hq_o6 h ha hv (nI (Wl.length)), hq_ai ha (G 0) 247 (hq_wr upd th 0 (Wl.map Prod.fst)), hq_ai hv (G 0) 247 (hq_wr upd tv 0 (Wl.map Prod.snd))] ++ ([hq_o1 x xa xb xc (nI k) (hq_z lab) lb im, hq_ai xa (G 0) 12 fh, hq_ai xb (G 0) 12 fv, hq_ai xc (G 2) 12 fl, hq_o0 y ya yb (nI nc) (hq_z cd), hq_ai ya (G 2) 3 cl, hq_ai yb (G 2) 3 cr] ++ Z)) H := hP
        have hDc : va_D A ([hq_o6 h ha hv (nI (Wl.length)), hq_ai ha (G 0) 247 (hq_wr upd th 0 (Wl.map Prod.fst)), hq_ai hv (G 0) 247 (hq_wr upd tv 0 (Wl.map Prod.snd))] ++ ([hq_o1 x xa xb xc (nI k) (hq_z lab) lb im, hq_ai xa (G 0) 12 fh, hq_ai xb (G 0) 12 fv, hq_ai xc (G 2) 12 fl, hq_o0 y ya yb (nI nc) (hq_z cd), hq_ai ya (G 2) 3 cl, hq_ai yb (G 2) 3 cr] ++ Z)) := hD
        refine hq_vF (hq_rV (As := [.int (fh f), .int (fv f)]) (rest := []) hx hb hml hown hts (c_Terms_add l D G A ([hq_o1 x xa xb xc (nI k) (hq_z lab) lb im, hq_ai xa (G 0) 12 fh, hq_ai xb (G 0) 12 fv, hq_ai xc (G 2) 12 fl, hq_o0 y ya yb (nI nc) (hq_z cd), hq_ai ya (G 2) 3 cl, hq_ai yb (G 2) 3 cr] ++ Z) h ha hv (hq_wr upd th 0 (Wl.map Prod.fst)) (hq_wr upd tv 0 (Wl.map Prod.snd)) Wl.length (fh f) (fv f) (by first | assumption | omega)) yy_Terms_add lk_Terms_29 hA hK hN hS hPc hDc 0 6 rfl rfl rfl hl.1 rfl (Nat.le_of_ble_eq_true rfl) d_Terms_expand_28 ⟨by decide, by decide⟩ ⟨by decide, by decide⟩) hS (fun H locs hP hD hS => ?_)
        have hP : va_P D hq_cl ([hq_o6 h ha hv (nI (Wl.length + 1)), hq_ai ha (G 0) 247 (upd (hq_wr upd th 0 (Wl.map Prod.fst)) Wl.length (fh f)), hq_ai hv (G 0) 247 (upd (hq_wr upd tv 0 (Wl.map Prod.snd)) Wl.length (fv f)), hq_o1 x xa xb xc (nI k) (hq_z lab) lb im, hq_ai xa (G 0) 12 fh, hq_ai xb (G 0) 12 fv, hq_ai xc (G 2) 12 fl, hq_o0 y ya yb (nI nc) (hq_z cd), hq_ai ya (G 2) 3 cl, hq_ai yb (G 2) 3 cr] ++ Z) H := hP
        have hD : va_D A ([hq_o6 h ha hv (nI (Wl.length + 1)), hq_ai ha (G 0) 247 (upd (hq_wr upd th 0 (Wl.map Prod.fst)) Wl.length (fh f)), hq_ai hv (G 0) 247 (upd (hq_wr upd tv 0 (Wl.map Prod.snd)) Wl.length (fv f)), hq_o1 x xa xb xc (nI k) (hq_z lab) lb im, hq_ai xa (G 0) 12 fh, hq_ai xb (G 0) 12 fv, hq_ai xc (G 2) 12 fl, hq_o0 y ya yb (nI nc) (hq_z cd), hq_ai ya (G 2) 3 cl, hq_ai yb (G 2) 3 cr] ++ Z) := hD
        refine lv_iinc (nL := 4) (k := 3) (v := nI (f + 1)) (lv' := [(3, .int (nI (f + 1))), (0, .ref h), (1, .ref x), (2, .ref y)]) hx hb d_Terms_expand_31 hl rfl (nI_add f 1) (by decide) rfl (fun ls hl => ?_)
        refine lv_goto (tgt := 7) hx hb d_Terms_expand_34 rfl ?_
        have e9_0 : (nI ((Wl ++ [(fh f, fv f)]).length)) = (nI (Wl.length + 1)) := by first | exact hq_wrF | exact hq_wrF0 | exact hq_wrG | exact hq_wrG0 | exact hq_wrN | exact hq_wrN0 | exact hq_wrM | exact hq_wrM0 | (rw [hF, x, List.append_nil]) | rfl
        have e9_1 : (hq_wr upd th 0 ((Wl ++ [(fh f, fv f)]).map Prod.fst)) = (upd (hq_wr upd th 0 (Wl.map Prod.fst)) Wl.length (fh f)) := by first | exact hq_wrF | exact hq_wrF0 | exact hq_wrG | exact hq_wrG0 | exact hq_wrN | exact hq_wrN0 | exact hq_wrM | exact hq_wrM0 | (rw [hF, x, List.append_nil]) | rfl
        have e9_2 : (hq_wr upd tv 0 ((Wl ++ [(fh f, fv f)]).map Prod.snd)) = (upd (hq_wr upd tv 0 (Wl.map Prod.snd)) Wl.length (fv f)) := by first | exact hq_wrF | exact hq_wrF0 | exact hq_wrG | exact hq_wrG0 | exact hq_wrN | exact hq_wrN0 | exact hq_wrM | exact hq_wrM0 | (rw [hF, x, List.append_nil]) | rfl
        have hP : va_P D hq_cl ([hq_o6 h ha hv (nI ((Wl ++ [(fh f, fv f)]).length)), hq_ai ha (G 0) 247 (hq_wr upd th 0 ((Wl ++ [(fh f, fv f)]).map Prod.fst)), hq_ai hv (G 0) 247 (hq_wr upd tv 0 ((Wl ++ [(fh f, fv f)]).map Prod.snd)), hq_o1 x xa xb xc (nI k) (hq_z lab) lb im, hq_ai xa (G 0) 12 fh, hq_ai xb (G 0) 12 fv, hq_ai xc (G 2) 12 fl, hq_o0 y ya yb (nI nc) (hq_z cd), hq_ai ya (G 2) 3 cl, hq_ai yb (G 2) 3 cr] ++ Z) H := by rw [e9_0, e9_1, e9_2]; exact hP
        have hD : va_D A ([hq_o6 h ha hv (nI ((Wl ++ [(fh f, fv f)]).length)), hq_ai ha (G 0) 247 (hq_wr upd th 0 ((Wl ++ [(fh f, fv f)]).map Prod.fst)), hq_ai hv (G 0) 247 (hq_wr upd tv 0 ((Wl ++ [(fh f, fv f)]).map Prod.snd)), hq_o1 x xa xb xc (nI k) (hq_z lab) lb im, hq_ai xa (G 0) 12 fh, hq_ai xb (G 0) 12 fv, hq_ai xc (G 2) 12 fl, hq_o0 y ya yb (nI nc) (hq_z cd), hq_ai ya (G 2) 3 cl, hq_ai yb (G 2) 3 cr] ++ Z) := by rw [e9_0, e9_1, e9_2]; exact hD
        exact ih _ (by omega) (f + 1) (Wl ++ [(fh f, fv f)]) ls H locs rfl (by first | assumption | omega) (by rw [hF, hq_fs_go (f := f) (j := k) (by omega), List.append_assoc]; rfl) (lv_sub hl [1, 2, 3, 0] rfl) hP hD hS
  have e9_0 : (nI (([] : List (Int32 × Int32)).length)) = (nI 0) := by first | exact hq_wrF | exact hq_wrF0 | exact hq_wrG | exact hq_wrG0 | exact hq_wrN | exact hq_wrN0 | exact hq_wrM | exact hq_wrM0 | (rw [hF, x, List.append_nil]) | rfl
  have e9_1 : (hq_wr upd th 0 (([] : List (Int32 × Int32)).map Prod.fst)) = th := by first | exact hq_wrF | exact hq_wrF0 | exact hq_wrG | exact hq_wrG0 | exact hq_wrN | exact hq_wrN0 | exact hq_wrM | exact hq_wrM0 | (rw [hF, x, List.append_nil]) | rfl
  have e9_2 : (hq_wr upd tv 0 (([] : List (Int32 × Int32)).map Prod.snd)) = tv := by first | exact hq_wrF | exact hq_wrF0 | exact hq_wrG | exact hq_wrG0 | exact hq_wrN | exact hq_wrN0 | exact hq_wrM | exact hq_wrM0 | (rw [hF, x, List.append_nil]) | rfl
  have hP : va_P D hq_cl ([hq_o6 h ha hv (nI (([] : List (Int32 × Int32)).length)), hq_ai ha (G 0) 247 (hq_wr upd th 0 (([] : List (Int32 × Int32)).map Prod.fst)), hq_ai hv (G 0) 247 (hq_wr upd tv 0 (([] : List (Int32 × Int32)).map Prod.snd)), hq_o1 x xa xb xc (nI k) (hq_z lab) lb im, hq_ai xa (G 0) 12 fh, hq_ai xb (G 0) 12 fv, hq_ai xc (G 2) 12 fl, hq_o0 y ya yb (nI nc) (hq_z cd), hq_ai ya (G 2) 3 cl, hq_ai yb (G 2) 3 cr] ++ Z) H := by rw [e9_0, e9_1, e9_2]; exact hP
  have hD : va_D A ([hq_o6 h ha hv (nI (([] : List (Int32 × Int32)).length)), hq_ai ha (G 0) 247 (hq_wr upd th 0 (([] : List (Int32 × Int32)).map Prod.fst)), hq_ai hv (G 0) 247 (hq_wr upd tv 0 (([] : List (Int32 × Int32)).map Prod.snd)), hq_o1 x xa xb xc (nI k) (hq_z lab) lb im, hq_ai xa (G 0) 12 fh, hq_ai xb (G 0) 12 fv, hq_ai xc (G 2) 12 fl, hq_o0 y ya yb (nI nc) (hq_z cd), hq_ai ya (G 2) 3 cl, hq_ai yb (G 2) 3 cr] ++ Z) := by rw [e9_0, e9_1, e9_2]; exact hD
  exact cut7 _ 0 ([] : List (Int32 × Int32)) ls H locs rfl (by first | assumption | omega) (rfl) (lv_sub hl [1, 2, 3, 0] rfl) hP hD hS
