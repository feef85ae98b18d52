set_option maxHeartbeats 4000000 in
set_option maxRecDepth 100000 in
theorem c_H_terms_do (l : Launch) (D : va_G) (G : Nat → ClassId) (A : Nat → Prop) (Z : va_W) (h : Nat) (lna : Nat) (y : Nat) (rra : Nat) (od : Nat) (hd : Nat) (rsa : Nat) (so : Nat) (z : Nat) (o : Nat) (tl : Nat) (b : Nat) (mma : Nat) (vva : Nat) (wc : Int32) (fr : Nat → Option Nat) (za : Nat) (zb : Nat) (th : Nat → Int32) (tv : Nat → Int32) (q : Nat) (x : Nat) (xa : Nat) (xb : Nat) (xc : Nat) (fh : Nat → Int32) (fv : Nat → Int32) (fl : Nat → Int32) (k : Nat) (lab : Bool) (lb : Int32) (im : Int32) (ya : Nat) (yb : Nat) (cl : Nat → Int32) (cr : Nat → Int32) (nc : Nat) (cd : Bool) (wa : Nat) (sa : Nat) (ca : Nat) (n : Nat) (wt : Nat → Int32) (su : Nat → Int64) (sc : Nat → Int64) (ru : Int32) (hhd : 0 < hd) (hhd4 : hd ≤ 4) (hod : od < 4) (hfr : fr od = some x) (hk : k ≤ 12) (hnc : nc ≤ 3) (hq : (hq_tms fh fv fl k cl cr nc).length ≤ 247) (hn : hq_pow n) : hq_FI l D G A y_H_terms b_H_terms 1 .int 5 [.ref h] ([hq_o7 h lna y rra (nI od) (nI hd) rsa (nI so) z o tl b mma vva wc, hq_aq rra (G 4) 4 fr, hq_o6 z za zb (nI q), hq_ai za (G 0) 247 th, hq_ai zb (G 0) 247 tv, hq_o1 x xa xb xc (nI k) (hq_z lab) lb im, hq_ai xa (G 0) 12 fh, hq_ai xb (G 0) 12 fv, hq_ai xc (G 2) 12 fl, hq_o0 y ya yb (nI nc) (hq_z cd), hq_ai ya (G 2) 3 cl, hq_ai yb (G 2) 3 cr, hq_o4 b wa sa ca ru, hq_ai wa (G 0) n wt, hq_al sa (G 1) n su, hq_al ca (G 1) n sc] ++ Z) (nI ((hq_tms fh fv fl k cl cr nc).length)) ([hq_o7 h lna y rra (nI od) (nI hd) rsa (nI so) z o tl b mma vva wc, hq_aq rra (G 4) 4 fr, hq_o6 z za zb (nI ((hq_tms fh fv fl k cl cr nc).length)), hq_ai za (G 0) 247 (hq_wr upd th 0 ((hq_tms fh fv fl k cl cr nc).map Prod.fst)), hq_ai zb (G 0) 247 (hq_wr upd tv 0 ((hq_tms fh fv fl k cl cr nc).map Prod.snd)), hq_o1 x xa xb xc (nI k) (hq_z lab) lb im, hq_ai xa (G 0) 12 fh, hq_ai xb (G 0) 12 fv, hq_ai xc (G 2) 12 fl, hq_o0 y ya yb (nI nc) (hq_z cd), hq_ai ya (G 2) 3 cl, hq_ai yb (G 2) 3 cr, hq_o4 b wa sa ca ru, hq_ai wa (G 0) n wt, hq_al sa (G 1) n su, hq_al ca (G 1) n sc] ++ Z) := by
  refine hq_bI (by decide) (Nat.le_of_ble_eq_true rfl) (fun _ _ _ => rfl) ?_
  intro p e s m args below meth c Q hx hb hml hts hown hA hK hN hret ls H locs hl hP hD hS
  have hown : s.vm.findClass "HashedLearner" = some m.cls := hown
  have hl : lv_has ls 1 [(0, .ref h)] := hl
  refine lv_aload_n hx hb d_H_terms_0 rfl (lv_at hl 0 rfl) ?_
  refine va_get (D := D) (ci := 7) (v := .int (nI hd)) (C := R_H) (T := F_H) (N := 14) hx hb hts uw_H hown hK hP 0 rfl rfl 4 (by decide) (hts _ fl_H_33) (fun _ h9 => h9) rfl d_H_terms_1 ?_
  refine lv_if_ne (tgt := 9) hx hb d_H_terms_4 rfl (fun c4 => ?_) (fun c4 => ?_)
  · -- 4 taken
    have c4 : ¬ hd = 0 := fun h => c4 ((nI_eq (a := hd) (b := 0) (by omega) (by omega)).mpr h)
    refine lv_aload_n hx hb d_H_terms_9 rfl (lv_at hl 0 rfl) ?_
    refine va_get (D := D) (ci := 7) (v := .ref z) (C := R_H) (T := F_H) (N := 14) hx hb hts uw_H hown hK hP 0 rfl rfl 7 (by decide) (hts _ fl_H_45) (fun _ h9 => h9) rfl d_H_terms_10 ?_
    refine lv_aload_n hx hb d_H_terms_13 rfl (lv_at hl 0 rfl) ?_
    refine va_get (D := D) (ci := 7) (v := .ref rra) (C := R_H) (T := F_H) (N := 14) hx hb hts uw_H hown hK hP 0 rfl rfl 2 (by decide) (hts _ fl_H_25) (fun _ h9 => h9) rfl d_H_terms_14 ?_
    refine lv_aload_n hx hb d_H_terms_17 rfl (lv_at hl 0 rfl) ?_
    refine va_get (D := D) (ci := 7) (v := .int (nI od)) (C := R_H) (T := F_H) (N := 14) hx hb hts uw_H hown hK hP 0 rfl rfl 3 (by decide) (hts _ fl_H_29) (fun _ h9 => h9) rfl d_H_terms_18 ?_
    refine hq_aald (j := od) hx hb hK hP 1 4 rfl rfl (by omega) (by omega) d_H_terms_21 ?_
    refine hq_topq (y := x) (hfr) ?_
    refine lv_aload_n hx hb d_H_terms_22 rfl (lv_at hl 0 rfl) ?_
    refine va_get (D := D) (ci := 7) (v := .ref y) (C := R_H) (T := F_H) (N := 14) hx hb hts uw_H hown hK hP 0 rfl rfl 1 (by decide) (hts _ fl_H_19) (fun _ h9 => h9) rfl d_H_terms_23 ?_
    have hPc : va_P D hq_cl ([hq_o6 z za zb (nI q), hq_ai za (G 0) 247 th, hq_ai zb (G 0) 247 tv, hq_o1 x xa xb xc (nI k) (hq_z lab) lb im, hq_ai xa (G 0) 12 fh, hq_ai xb (G 0) 12 fv, hq_ai xc (G 2) 12 fl, hq_o0 y ya yb (nI nc) (hq_z cd), hq_ai ya (G 2) 3 cl, hq_ai yb (G 2) 3 cr] ++ ([hq_o7 h lna y rra (nI od) (nI hd) rsa (nI so) z o tl b mma vva wc, hq_aq rra (G 4) 4 fr, hq_o4 b wa sa ca ru, hq_ai wa (G 0) n wt, hq_al sa (G 1) n su, hq_al ca (G 1) n sc] ++ Z)) H := va_P.part (cx := [hq_o6 z za zb (nI q), hq_ai za (G 0) 247 th, hq_ai zb (G 0) 247 tv, hq_o1 x xa xb xc (nI k) (hq_z lab) lb im, hq_ai xa (G 0) 12 fh, hq_ai xb (G 0) 12 fv, hq_ai xc (G 2) 12 fl, hq_o0 y ya yb (nI nc) (hq_z cd), hq_ai ya (G 2) 3 cl, hq_ai yb (G 2) 3 cr, hq_o7 h lna y rra (nI od) (nI hd) rsa (nI so) z o tl b mma vva wc, hq_aq rra (G 4) 4 fr, hq_o4 b wa sa ca ru, hq_ai wa (G 0) n wt, hq_al sa (G 1) n su, hq_al ca (G 1) n sc]) hP [2, 3, 4, 5, 6, 7, 8, 9, 10, 11, 0, 1, 12, 13, 14, 15] rfl
    have hDc : va_D A ([hq_o6 z za zb (nI q), hq_ai za (G 0) 247 th, hq_ai zb (G 0) 247 tv, hq_o1 x xa xb xc (nI k) (hq_z lab) lb im, hq_ai xa (G 0) 12 fh, hq_ai xb (G 0) 12 fv, hq_ai xc (G 2) 12 fl, hq_o0 y ya yb (nI nc) (hq_z cd), hq_ai ya (G 2) 3 cl, hq_ai yb (G 2) 3 cr] ++ ([hq_o7 h lna y rra (nI od) (nI hd) rsa (nI so) z o tl b mma vva wc, hq_aq rra (G 4) 4 fr, hq_o4 b wa sa ca ru, hq_ai wa (G 0) n wt, hq_al sa (G 1) n su, hq_al ca (G 1) n sc] ++ Z)) := va_D.part (cx := [hq_o6 z za zb (nI q), hq_ai za (G 0) 247 th, hq_ai zb (G 0) 247 tv, hq_o1 x xa xb xc (nI k) (hq_z lab) lb im, hq_ai xa (G 0) 12 fh, hq_ai xb (G 0) 12 fv, hq_ai xc (G 2) 12 fl, hq_o0 y ya yb (nI nc) (hq_z cd), hq_ai ya (G 2) 3 cl, hq_ai yb (G 2) 3 cr, hq_o7 h lna y rra (nI od) (nI hd) rsa (nI so) z o tl b mma vva wc, hq_aq rra (G 4) 4 fr, hq_o4 b wa sa ca ru, hq_ai wa (G 0) n wt, hq_al sa (G 1) n su, hq_al ca (G 1) n sc]) hD [2, 3, 4, 5, 6, 7, 8, 9, 10, 11, 0, 1, 12, 13, 14, 15] (by decide) rfl
    refine hq_vF (hq_rV (As := [.ref x, .ref y]) (rest := []) hx hb hml hown hts (c_Terms_expand l D G A ([hq_o7 h lna y rra (nI od) (nI hd) rsa (nI so) z o tl b mma vva wc, hq_aq rra (G 4) 4 fr, hq_o4 b wa sa ca ru, hq_ai wa (G 0) n wt, hq_al sa (G 1) n su, hq_al ca (G 1) n sc] ++ Z) z za zb th tv q x xa xb xc fh fv fl k lab lb im y ya yb cl cr nc cd (by first | assumption | omega) (by first | assumption | omega) (by first | assumption | omega)) yy_Terms_expand lk_H_137 hA hK hN hS hPc hDc 0 6 rfl rfl rfl hl.1 rfl (Nat.le_of_ble_eq_true rfl) d_H_terms_26 ⟨by decide, by decide⟩ ⟨by decide, by decide⟩) hS (fun H locs hP hD hS => ?_)
    have hP : va_P D hq_cl ([hq_o6 z za zb (nI ((hq_tms fh fv fl k cl cr nc).length)), hq_ai za (G 0) 247 (hq_wr upd th 0 ((hq_tms fh fv fl k cl cr nc).map Prod.fst)), hq_ai zb (G 0) 247 (hq_wr upd tv 0 ((hq_tms fh fv fl k cl cr nc).map Prod.snd)), hq_o1 x xa xb xc (nI k) (hq_z lab) lb im, hq_ai xa (G 0) 12 fh, hq_ai xb (G 0) 12 fv, hq_ai xc (G 2) 12 fl, hq_o0 y ya yb (nI nc) (hq_z cd), hq_ai ya (G 2) 3 cl, hq_ai yb (G 2) 3 cr, hq_o7 h lna y rra (nI od) (nI hd) rsa (nI so) z o tl b mma vva wc, hq_aq rra (G 4) 4 fr, hq_o4 b wa sa ca ru, hq_ai wa (G 0) n wt, hq_al sa (G 1) n su, hq_al ca (G 1) n sc] ++ Z) H := hP
    have hD : va_D A ([hq_o6 z za zb (nI ((hq_tms fh fv fl k cl cr nc).length)), hq_ai za (G 0) 247 (hq_wr upd th 0 ((hq_tms fh fv fl k cl cr nc).map Prod.fst)), hq_ai zb (G 0) 247 (hq_wr upd tv 0 ((hq_tms fh fv fl k cl cr nc).map Prod.snd)), hq_o1 x xa xb xc (nI k) (hq_z lab) lb im, hq_ai xa (G 0) 12 fh, hq_ai xb (G 0) 12 fv, hq_ai xc (G 2) 12 fl, hq_o0 y ya yb (nI nc) (hq_z cd), hq_ai ya (G 2) 3 cl, hq_ai yb (G 2) 3 cr, hq_o7 h lna y rra (nI od) (nI hd) rsa (nI so) z o tl b mma vva wc, hq_aq rra (G 4) 4 fr, hq_o4 b wa sa ca ru, hq_ai wa (G 0) n wt, hq_al sa (G 1) n su, hq_al ca (G 1) n sc] ++ Z) := hD
    refine lv_aload_n hx hb d_H_terms_29 rfl (lv_at hl 0 rfl) ?_
    refine va_get (D := D) (ci := 7) (v := .ref z) (C := R_H) (T := F_H) (N := 14) hx hb hts uw_H hown hK hP 10 rfl rfl 7 (by decide) (hts _ fl_H_45) (fun _ h9 => h9) rfl d_H_terms_30 ?_
    refine va_get (D := D) (ci := 6) (v := .int (nI ((hq_tms fh fv fl k cl cr nc).length))) (C := R_Terms) (T := F_Terms) (N := 3) hx hb hts uw_Terms hown hK hP 0 rfl rfl 2 (by decide) (hts _ fl_H_141) (fun _ h9 => h9) rfl d_H_terms_33 ?_
    have hP := va_P.part (cx := [hq_o7 h lna y rra (nI od) (nI hd) rsa (nI so) z o tl b mma vva wc, hq_aq rra (G 4) 4 fr, hq_o6 z za zb (nI ((hq_tms fh fv fl k cl cr nc).length)), hq_ai za (G 0) 247 (hq_wr upd th 0 ((hq_tms fh fv fl k cl cr nc).map Prod.fst)), hq_ai zb (G 0) 247 (hq_wr upd tv 0 ((hq_tms fh fv fl k cl cr nc).map Prod.snd)), hq_o1 x xa xb xc (nI k) (hq_z lab) lb im, hq_ai xa (G 0) 12 fh, hq_ai xb (G 0) 12 fv, hq_ai xc (G 2) 12 fl, hq_o0 y ya yb (nI nc) (hq_z cd), hq_ai ya (G 2) 3 cl, hq_ai yb (G 2) 3 cr, hq_o4 b wa sa ca ru, hq_ai wa (G 0) n wt, hq_al sa (G 1) n su, hq_al ca (G 1) n sc]) hP [10, 11, 0, 1, 2, 3, 4, 5, 6, 7, 8, 9, 12, 13, 14, 15] rfl
    have hD := va_D.part (cx := [hq_o7 h lna y rra (nI od) (nI hd) rsa (nI so) z o tl b mma vva wc, hq_aq rra (G 4) 4 fr, hq_o6 z za zb (nI ((hq_tms fh fv fl k cl cr nc).length)), hq_ai za (G 0) 247 (hq_wr upd th 0 ((hq_tms fh fv fl k cl cr nc).map Prod.fst)), hq_ai zb (G 0) 247 (hq_wr upd tv 0 ((hq_tms fh fv fl k cl cr nc).map Prod.snd)), hq_o1 x xa xb xc (nI k) (hq_z lab) lb im, hq_ai xa (G 0) 12 fh, hq_ai xb (G 0) 12 fv, hq_ai xc (G 2) 12 fl, hq_o0 y ya yb (nI nc) (hq_z cd), hq_ai ya (G 2) 3 cl, hq_ai yb (G 2) 3 cr, hq_o4 b wa sa ca ru, hq_ai wa (G 0) n wt, hq_al sa (G 1) n su, hq_al ca (G 1) n sc]) hD [10, 11, 0, 1, 2, 3, 4, 5, 6, 7, 8, 9, 12, 13, 14, 15] (by decide) rfl
    exact hret (nI ((hq_tms fh fv fl k cl cr nc).length)) () H locs 36 ls d_H_terms_36 (by simp [c4]) hP hD hS
  · -- 4 not taken
    have c4 : hd = 0 := (nI_eq (a := hd) (b := 0) (by omega) (by omega)).mp c4
    exact absurd c4 (by omega)
theorem d_H_hasTerm_0 : decode b_H_hasTerm 0 = .ok (.iload_n 1, 1) := by decide +kernel
theorem d_H_hasTerm_1 : decode b_H_hasTerm 1 = .ok (.ifCond .lt (15), 3) := by decide +kernel
theorem d_H_hasTerm_4 : decode b_H_hasTerm 4 = .ok (.iload_n 1, 1) := by decide +kernel
theorem d_H_hasTerm_5 : decode b_H_hasTerm 5 = .ok (.aload_n 0, 1) := by decide +kernel
theorem d_H_hasTerm_6 : decode b_H_hasTerm 6 = .ok (.invokevirtual 188, 3) := by decide +kernel
theorem d_H_hasTerm_9 : decode b_H_hasTerm 9 = .ok (.if_icmp .ge (7), 3) := by decide +kernel
theorem d_H_hasTerm_12 : decode b_H_hasTerm 12 = .ok (.iconst 1, 1) := by decide +kernel
theorem d_H_hasTerm_13 : decode b_H_hasTerm 13 = .ok (.goto (4), 3) := by decide +kernel
theorem d_H_hasTerm_16 : decode b_H_hasTerm 16 = .ok (.iconst 0, 1) := by decide +kernel
theorem d_H_hasTerm_17 : decode b_H_hasTerm 17 = .ok (.ireturn, 1) := by decide +kernel
set_option maxHeartbeats 4000000 in
set_option maxRecDepth 100000 in
theorem c_H_hasTerm_no (l : Launch) (D : va_G) (G : Nat → ClassId) (A : Nat → Prop) (Z : va_W) (h : Nat) (lna : Nat) (y : Nat) (rra : Nat) (od : Nat) (hd : Nat) (rsa : Nat) (so : Nat) (z : Nat) (o : Nat) (tl : Nat) (b : Nat) (mma : Nat) (vva : Nat) (wc : Int32) (x : Int32) (hhd : hd = 0) : hq_FI l D G A y_H_hasTerm b_H_hasTerm 2 .boolean 1 [.ref h, .int x] ([hq_o7 h lna y rra (nI od) (nI hd) rsa (nI so) z o tl b mma vva wc] ++ Z) (hq_z false) ([hq_o7 h lna y rra (nI od) (nI hd) rsa (nI so) z o tl b mma vva wc] ++ Z) := by
  refine hq_bI (by decide) (Nat.le_of_ble_eq_true rfl) (fun r u h => by rw [h]; exact hq_znar _) ?_
  intro p e s m args below meth c Q hx hb hml hts hown hA hK hN hret ls H locs hl hP hD hS
  have hown : s.vm.findClass "HashedLearner" = some m.cls := hown
  have hl : lv_has ls 2 [(0, .ref h), (1, .int x)] := hl
  refine lv_iload_n hx hb d_H_hasTerm_0 rfl (lv_at hl 1 rfl) ?_
  refine lv_if_lt (tgt := 16) hx hb d_H_hasTerm_1 rfl (fun c1 => ?_) (fun c1 => ?_)
  · -- 1 taken
    have c1 : x < 0 := c1
    refine lv_iconst (v := 0) hx hb d_H_hasTerm_16 (by decide) ?_
    exact hret 0 () H locs 17 ls d_H_hasTerm_17 (rfl) hP hD hS
  · -- 1 not taken
    have c1 : ¬ x < 0 := c1
    refine lv_iload_n hx hb d_H_hasTerm_4 rfl (lv_at hl 1 rfl) ?_
    refine lv_aload_n hx hb d_H_hasTerm_5 rfl (lv_at hl 0 rfl) ?_
    have hPc : va_P D hq_cl ([hq_o7 h lna y rra (nI od) (nI hd) rsa (nI so) z o tl b mma vva wc] ++ Z) H := hP
    have hDc : va_D A ([hq_o7 h lna y rra (nI od) (nI hd) rsa (nI so) z o tl b mma vva wc] ++ Z) := hD
    refine hq_iF (hq_rV (As := []) (rest := [.int x]) hx hb hml hown hts (c_H_terms_no l D G A Z h lna y rra od hd rsa so z o tl b mma vva wc (by first | assumption | omega)) yy_H_terms lk_H_188 hA hK hN hS hPc hDc 0 7 rfl rfl rfl hl.1 rfl (Nat.le_of_ble_eq_true rfl) d_H_hasTerm_6 ⟨by decide, by decide⟩ ⟨by decide, by decide⟩) hS (fun H locs hP hD hS => ?_)
    have hP : va_P D hq_cl ([hq_o7 h lna y rra (nI od) (nI hd) rsa (nI so) z o tl b mma vva wc] ++ Z) H := hP
    have hD : va_D A ([hq_o7 h lna y rra (nI od) (nI hd) rsa (nI so) z o tl b mma vva wc] ++ Z) := hD
    refine lv_icmp_ge (tgt := 16) hx hb d_H_hasTerm_9 rfl (fun c9 => ?_) (fun c9 => ?_)
    · -- 9 taken
      have c9 : (-1) ≤ x := c9
      refine lv_iconst (v := 0) hx hb d_H_hasTerm_16 (by decide) ?_
      exact hret 0 () H locs 17 ls d_H_hasTerm_17 (rfl) hP hD hS
    · -- 9 not taken
      have c9 : ¬ (-1) ≤ x := c9
      exact absurd (Int32.not_le.mp c9) (fun h9 => c1 (Int32.lt_trans h9 (by decide)))
set_option maxHeartbeats 4000000 in
set_option maxRecDepth 100000 in
theorem c_H_hasTerm_do (l : Launch) (D : va_G) (G : Nat → ClassId) (A : Nat → Prop) (Z : va_W) (h : Nat) (lna : Nat) (y : Nat) (rra : Nat) (od : Nat) (hd : Nat) (rsa : Nat) (so : Nat) (z : Nat) (o : Nat) (tl : Nat) (b : Nat) (mma : Nat) (vva : Nat) (wc : Int32) (fr : Nat → Option Nat) (za : Nat) (zb : Nat) (th : Nat → Int32) (tv : Nat → Int32) (q : Nat) (x : Nat) (xa : Nat) (xb : Nat) (xc : Nat) (fh : Nat → Int32) (fv : Nat → Int32) (fl : Nat → Int32) (k : Nat) (lab : Bool) (lb : Int32) (im : Int32) (ya : Nat) (yb : Nat) (cl : Nat → Int32) (cr : Nat → Int32) (nc : Nat) (cd : Bool) (wa : Nat) (sa : Nat) (ca : Nat) (n : Nat) (wt : Nat → Int32) (su : Nat → Int64) (sc : Nat → Int64) (ru : Int32) (v : Int32) (hhd : 0 < hd) (hhd4 : hd ≤ 4) (hod : od < 4) (hfr : fr od = some x) (hk : k ≤ 12) (hnc : nc ≤ 3) (hq : (hq_tms fh fv fl k cl cr nc).length ≤ 247) (hn : hq_pow n) : hq_MI l D G A y_H_hasTerm b_H_hasTerm 2 .boolean 6 0 0 [.ref h, .int v] ([hq_o7 h lna y rra (nI od) (nI hd) rsa (nI so) z o tl b mma vva wc, hq_aq rra (G 4) 4 fr, hq_o6 z za zb (nI q), hq_ai za (G 0) 247 th, hq_ai zb (G 0) 247 tv, hq_o1 x xa xb xc (nI k) (hq_z lab) lb im, hq_ai xa (G 0) 12 fh, hq_ai xb (G 0) 12 fv, hq_ai xc (G 2) 12 fl, hq_o0 y ya yb (nI nc) (hq_z cd), hq_ai ya (G 2) 3 cl, hq_ai yb (G 2) 3 cr, hq_o4 b wa sa ca ru, hq_ai wa (G 0) n wt, hq_al sa (G 1) n su, hq_al ca (G 1) n sc] ++ Z) (fun r (u : Nat × (Nat → Int32) × (Nat → Int32)) => r = hq_z (f_Table_has ((hq_tms fh fv fl k cl cr nc).length) v) ∧ (f_Table_has ((hq_tms fh fv fl k cl cr nc).length) v = true → u.1 = (hq_tms fh fv fl k cl cr nc).length ∧ u.2.1 = hq_wr upd th 0 ((hq_tms fh fv fl k cl cr nc).map Prod.fst) ∧ u.2.2 = hq_wr upd tv 0 ((hq_tms fh fv fl k cl cr nc).map Prod.snd))) (fun (u : Nat × (Nat → Int32) × (Nat → Int32)) => [hq_o7 h lna y rra (nI od) (nI hd) rsa (nI so) z o tl b mma vva wc, hq_aq rra (G 4) 4 fr, hq_o6 z za zb (nI u.1), hq_ai za (G 0) 247 u.2.1, hq_ai zb (G 0) 247 u.2.2, hq_o1 x xa xb xc (nI k) (hq_z lab) lb im, hq_ai xa (G 0) 12 fh, hq_ai xb (G 0) 12 fv, hq_ai xc (G 2) 12 fl, hq_o0 y ya yb (nI nc) (hq_z cd), hq_ai ya (G 2) 3 cl, hq_ai yb (G 2) 3 cr, hq_o4 b wa sa ca ru, hq_ai wa (G 0) n wt, hq_al sa (G 1) n su, hq_al ca (G 1) n sc] ++ Z) := by
  refine hq_bI (by decide) (Nat.le_of_ble_eq_true rfl) (fun r u h => by rw [h.1]; exact hq_znar _) ?_
  intro p e s m args below meth c Q hx hb hml hts hown hA hK hN hret ls H locs hl hP hD hS
  have hown : s.vm.findClass "HashedLearner" = some m.cls := hown
  have hl : lv_has ls 2 [(0, .ref h), (1, .int v)] := hl
  refine lv_iload_n hx hb d_H_hasTerm_0 rfl (lv_at hl 1 rfl) ?_
  refine lv_if_lt (tgt := 16) hx hb d_H_hasTerm_1 rfl (fun c1 => ?_) (fun c1 => ?_)
  · -- 1 taken
    have c1 : v < 0 := c1
    refine lv_iconst (v := 0) hx hb d_H_hasTerm_16 (by decide) ?_
    exact hret 0 (q, th, tv) H locs 17 ls d_H_hasTerm_17 (⟨by rw [f_Table_has, if_pos c1] <;> rfl, fun h9 => by rw [f_Table_has, if_pos c1] at h9; cases h9⟩) hP hD hS
  · -- 1 not taken
    have c1 : ¬ v < 0 := c1
    refine lv_iload_n hx hb d_H_hasTerm_4 rfl (lv_at hl 1 rfl) ?_
    refine lv_aload_n hx hb d_H_hasTerm_5 rfl (lv_at hl 0 rfl) ?_
    have hPc : va_P D hq_cl ([hq_o7 h lna y rra (nI od) (nI hd) rsa (nI so) z o tl b mma vva wc, hq_aq rra (G 4) 4 fr, hq_o6 z za zb (nI q), hq_ai za (G 0) 247 th, hq_ai zb (G 0) 247 tv, hq_o1 x xa xb xc (nI k) (hq_z lab) lb im, hq_ai xa (G 0) 12 fh, hq_ai xb (G 0) 12 fv, hq_ai xc (G 2) 12 fl, hq_o0 y ya yb (nI nc) (hq_z cd), hq_ai ya (G 2) 3 cl, hq_ai yb (G 2) 3 cr, hq_o4 b wa sa ca ru, hq_ai wa (G 0) n wt, hq_al sa (G 1) n su, hq_al ca (G 1) n sc] ++ Z) H := hP
    have hDc : va_D A ([hq_o7 h lna y rra (nI od) (nI hd) rsa (nI so) z o tl b mma vva wc, hq_aq rra (G 4) 4 fr, hq_o6 z za zb (nI q), hq_ai za (G 0) 247 th, hq_ai zb (G 0) 247 tv, hq_o1 x xa xb xc (nI k) (hq_z lab) lb im, hq_ai xa (G 0) 12 fh, hq_ai xb (G 0) 12 fv, hq_ai xc (G 2) 12 fl, hq_o0 y ya yb (nI nc) (hq_z cd), hq_ai ya (G 2) 3 cl, hq_ai yb (G 2) 3 cr, hq_o4 b wa sa ca ru, hq_ai wa (G 0) n wt, hq_al sa (G 1) n su, hq_al ca (G 1) n sc] ++ Z) := hD
    refine hq_iF (hq_rV (As := []) (rest := [.int v]) hx hb hml hown hts (c_H_terms_do l D G A Z h lna y rra od hd rsa so z o tl b mma vva wc fr za zb th tv q x xa xb xc fh fv fl k lab lb im ya yb cl cr nc cd wa sa ca n wt su sc ru (by first | assumption | omega) (by first | assumption | omega) (by first | assumption | omega) (by first | assumption | omega) (by first | assumption | omega) (by first | assumption | omega) (by first | assumption | omega) (by first | assumption | omega)) yy_H_terms lk_H_188 hA hK hN hS hPc hDc 0 7 rfl rfl rfl hl.1 rfl (Nat.le_of_ble_eq_true rfl) d_H_hasTerm_6 ⟨by decide, by decide⟩ ⟨by decide, by decide⟩) hS (fun H locs hP hD hS => ?_)
    have hP : va_P D hq_cl ([hq_o7 h lna y rra (nI od) (nI hd) rsa (nI so) z o tl b mma vva wc, hq_aq rra (G 4) 4 fr, hq_o6 z za zb (nI ((hq_tms fh fv fl k cl cr nc).length)), hq_ai za (G 0) 247 (hq_wr upd th 0 ((hq_tms fh fv fl k cl cr nc).map Prod.fst)), hq_ai zb (G 0) 247 (hq_wr upd tv 0 ((hq_tms fh fv fl k cl cr nc).map Prod.snd)), hq_o1 x xa xb xc (nI k) (hq_z lab) lb im, hq_ai xa (G 0) 12 fh, hq_ai xb (G 0) 12 fv, hq_ai xc (G 2) 12 fl, hq_o0 y ya yb (nI nc) (hq_z cd), hq_ai ya (G 2) 3 cl, hq_ai yb (G 2) 3 cr, hq_o4 b wa sa ca ru, hq_ai wa (G 0) n wt, hq_al sa (G 1) n su, hq_al ca (G 1) n sc] ++ Z) H := hP
    have hD : va_D A ([hq_o7 h lna y rra (nI od) (nI hd) rsa (nI so) z o tl b mma vva wc, hq_aq rra (G 4) 4 fr, hq_o6 z za zb (nI ((hq_tms fh fv fl k cl cr nc).length)), hq_ai za (G 0) 247 (hq_wr upd th 0 ((hq_tms fh fv fl k cl cr nc).map Prod.fst)), hq_ai zb (G 0) 247 (hq_wr upd tv 0 ((hq_tms fh fv fl k cl cr nc).map Prod.snd)), hq_o1 x xa xb xc (nI k) (hq_z lab) lb im, hq_ai xa (G 0) 12 fh, hq_ai xb (G 0) 12 fv, hq_ai xc (G 2) 12 fl, hq_o0 y ya yb (nI nc) (hq_z cd), hq_ai ya (G 2) 3 cl, hq_ai yb (G 2) 3 cr, hq_o4 b wa sa ca ru, hq_ai wa (G 0) n wt, hq_al sa (G 1) n su, hq_al ca (G 1) n sc] ++ Z) := hD
    refine lv_icmp_ge (tgt := 16) hx hb d_H_hasTerm_9 rfl (fun c9 => ?_) (fun c9 => ?_)
    · -- 9 taken
      have c9 : (nI ((hq_tms fh fv fl k cl cr nc).length)) ≤ v := c9
      refine lv_iconst (v := 0) hx hb d_H_hasTerm_16 (by decide) ?_
      exact hret 0 ((hq_tms fh fv fl k cl cr nc).length, hq_wr upd th 0 ((hq_tms fh fv fl k cl cr nc).map Prod.fst), hq_wr upd tv 0 ((hq_tms fh fv fl k cl cr nc).map Prod.snd)) H locs 17 ls d_H_hasTerm_17 (⟨by rw [f_Table_has, if_neg c1, if_pos c9] <;> rfl, fun _ => ⟨rfl, rfl, rfl⟩⟩) hP hD hS
    · -- 9 not taken
      have c9 : ¬ (nI ((hq_tms fh fv fl k cl cr nc).length)) ≤ v := c9
      refine lv_iconst (v := 1) hx hb d_H_hasTerm_12 (by decide) ?_
      refine lv_goto (tgt := 17) hx hb d_H_hasTerm_13 rfl ?_
      exact hret 1 ((hq_tms fh fv fl k cl cr nc).length, hq_wr upd th 0 ((hq_tms fh fv fl k cl cr nc).map Prod.fst), hq_wr upd tv 0 ((hq_tms fh fv fl k cl cr nc).map Prod.snd)) H locs 17 ls d_H_hasTerm_17 (⟨by rw [f_Table_has, if_neg c1, if_neg c9] <;> rfl, fun _ => ⟨rfl, rfl, rfl⟩⟩) hP hD hS
theorem d_H_index_0 : decode b_H_index 0 = .ok (.aload_n 0, 1) := by decide +kernel
theorem d_H_index_1 : decode b_H_index 1 = .ok (.iload_n 1, 1) := by decide +kernel
theorem d_H_index_2 : decode b_H_index 2 = .ok (.invokevirtual 143, 3) := by decide +kernel
theorem d_H_index_5 : decode b_H_index 5 = .ok (.ifCond .eq (22), 3) := by decide +kernel
theorem d_H_index_8 : decode b_H_index 8 = .ok (.aload_n 0, 1) := by decide +kernel
theorem d_H_index_9 : decode b_H_index 9 = .ok (.getfield 81, 3) := by decide +kernel
theorem d_H_index_12 : decode b_H_index 12 = .ok (.aload_n 0, 1) := by decide +kernel
theorem d_H_index_13 : decode b_H_index 13 = .ok (.getfield 45, 3) := by decide +kernel
theorem d_H_index_16 : decode b_H_index 16 = .ok (.getfield 147, 3) := by decide +kernel
theorem d_H_index_19 : decode b_H_index 19 = .ok (.iload_n 1, 1) := by decide +kernel
theorem d_H_index_20 : decode b_H_index 20 = .ok (.iaload, 1) := by decide +kernel
theorem d_H_index_21 : decode b_H_index 21 = .ok (.invokevirtual 151, 3) := by decide +kernel
theorem d_H_index_24 : decode b_H_index 24 = .ok (.goto (4), 3) := by decide +kernel
theorem d_H_index_27 : decode b_H_index 27 = .ok (.iconst (-1), 1) := by decide +kernel
theorem d_H_index_28 : decode b_H_index 28 = .ok (.ireturn, 1) := by decide +kernel
set_option maxHeartbeats 4000000 in
set_option maxRecDepth 100000 in
theorem c_H_index_no (l : Launch) (D : va_G) (G : Nat → ClassId) (A : Nat → Prop) (Z : va_W) (h : Nat) (lna : Nat) (y : Nat) (rra : Nat) (od : Nat) (hd : Nat) (rsa : Nat) (so : Nat) (z : Nat) (o : Nat) (tl : Nat) (b : Nat) (mma : Nat) (vva : Nat) (wc : Int32) (x : Int32) (hhd : hd = 0) : hq_FI l D G A y_H_index b_H_index 2 .int 2 [.ref h, .int x] ([hq_o7 h lna y rra (nI od) (nI hd) rsa (nI so) z o tl b mma vva wc] ++ Z) ((-1)) ([hq_o7 h lna y rra (nI od) (nI hd) rsa (nI so) z o tl b mma vva wc] ++ Z) := by
  refine hq_bI (by decide) (Nat.le_of_ble_eq_true rfl) (fun _ _ _ => rfl) ?_
  intro p e s m args below meth c Q hx hb hml hts hown hA hK hN hret ls H locs hl hP hD hS
  have hown : s.vm.findClass "HashedLearner" = some m.cls := hown
  have hl : lv_has ls 2 [(0, .ref h), (1, .int x)] := hl
  refine lv_aload_n hx hb d_H_index_0 rfl (lv_at hl 0 rfl) ?_
  refine lv_iload_n hx hb d_H_index_1 rfl (lv_at hl 1 rfl) ?_
  have hPc : va_P D hq_cl ([hq_o7 h lna y rra (nI od) (nI hd) rsa (nI so) z o tl b mma vva wc] ++ Z) H := hP
  have hDc : va_D A ([hq_o7 h lna y rra (nI od) (nI hd) rsa (nI so) z o tl b mma vva wc] ++ Z) := hD
  refine hq_iF (hq_rV (As := [.int x]) (rest := []) hx hb hml hown hts (c_H_hasTerm_no l D G A Z h lna y rra od hd rsa so z o tl b mma vva wc x (by first | assumption | omega)) yy_H_hasTerm lk_H_143 hA hK hN hS hPc hDc 0 7 rfl rfl rfl hl.1 rfl (Nat.le_of_ble_eq_true rfl) d_H_index_2 ⟨by decide, by decide⟩ ⟨by decide, by decide⟩) hS (fun H locs hP hD hS => ?_)
  have hP : va_P D hq_cl ([hq_o7 h lna y rra (nI od) (nI hd) rsa (nI so) z o tl b mma vva wc] ++ Z) H := hP
  have hD : va_D A ([hq_o7 h lna y rra (nI od) (nI hd) rsa (nI so) z o tl b mma vva wc] ++ Z) := hD
  refine lv_if_eq (tgt := 27) hx hb d_H_index_5 rfl (fun c5 => ?_) (fun c5 => ?_)
  · -- 5 taken
    have c5 : ¬ false = true := by rw [hq_z0.mp c5]; decide
    refine lv_iconst (v := (-1)) hx hb d_H_index_27 (by decide) ?_
    exact hret (-1) () H locs 28 ls d_H_index_28 (by simp [c5]) hP hD hS
  · -- 5 not taken
    have c5 : false = true := hq_zn.mp c5
    exact absurd c5 (by decide)
set_option maxHeartbeats 4000000 in
set_option maxRecDepth 100000 in
theorem c_H_index_do (l : Launch) (D : va_G) (G : Nat → ClassId) (A : Nat → Prop) (Z : va_W) (h : Nat) (lna : Nat) (y : Nat) (rra : Nat) (od : Nat) (hd : Nat) (rsa : Nat) (so : Nat) (z : Nat) (o : Nat) (tl : Nat) (b : Nat) (mma : Nat) (vva : Nat) (wc : Int32) (fr : Nat → Option Nat) (za : Nat) (zb : Nat) (th : Nat → Int32) (tv : Nat → Int32) (q : Nat) (x : Nat) (xa : Nat) (xb : Nat) (xc : Nat) (fh : Nat → Int32) (fv : Nat → Int32) (fl : Nat → Int32) (k : Nat) (lab : Bool) (lb : Int32) (im : Int32) (ya : Nat) (yb : Nat) (cl : Nat → Int32) (cr : Nat → Int32) (nc : Nat) (cd : Bool) (wa : Nat) (sa : Nat) (ca : Nat) (n : Nat) (wt : Nat → Int32) (su : Nat → Int64) (sc : Nat → Int64) (ru : Int32) (v : Int32) (hhd : 0 < hd) (hhd4 : hd ≤ 4) (hod : od < 4) (hfr : fr od = some x) (hk : k ≤ 12) (hnc : nc ≤ 3) (hq : (hq_tms fh fv fl k cl cr nc).length ≤ 247) (hn : hq_pow n) : hq_MI l D G A y_H_index b_H_index 2 .int 7 0 0 [.ref h, .int v] ([hq_o7 h lna y rra (nI od) (nI hd) rsa (nI so) z o tl b mma vva wc, hq_aq rra (G 4) 4 fr, hq_o6 z za zb (nI q), hq_ai za (G 0) 247 th, hq_ai zb (G 0) 247 tv, hq_o1 x xa xb xc (nI k) (hq_z lab) lb im, hq_ai xa (G 0) 12 fh, hq_ai xb (G 0) 12 fv, hq_ai xc (G 2) 12 fl, hq_o0 y ya yb (nI nc) (hq_z cd), hq_ai ya (G 2) 3 cl, hq_ai yb (G 2) 3 cr, hq_o4 b wa sa ca ru, hq_ai wa (G 0) n wt, hq_al sa (G 1) n su, hq_al ca (G 1) n sc] ++ Z) (fun r (u : Nat × (Nat → Int32) × (Nat → Int32)) => r = hq_get (fun j => nI (hq_slot n ((hq_tms fh fv fl k cl cr nc).getD j (0, 0)).1)) ((hq_tms fh fv fl k cl cr nc).length) v (-1)) (fun (u : Nat × (Nat → Int32) × (Nat → Int32)) => [hq_o7 h lna y rra (nI od) (nI hd) rsa (nI so) z o tl b mma vva wc, hq_aq rra (G 4) 4 fr, hq_o6 z za zb (nI u.1), hq_ai za (G 0) 247 u.2.1, hq_ai zb (G 0) 247 u.2.2, hq_o1 x xa xb xc (nI k) (hq_z lab) lb im, hq_ai xa (G 0) 12 fh, hq_ai xb (G 0) 12 fv, hq_ai xc (G 2) 12 fl, hq_o0 y ya yb (nI nc) (hq_z cd), hq_ai ya (G 2) 3 cl, hq_ai yb (G 2) 3 cr, hq_o4 b wa sa ca ru, hq_ai wa (G 0) n wt, hq_al sa (G 1) n su, hq_al ca (G 1) n sc] ++ Z) := by
  refine hq_bI (by decide) (Nat.le_of_ble_eq_true rfl) (fun _ _ _ => rfl) ?_
  intro p e s m args below meth c Q hx hb hml hts hown hA hK hN hret ls H locs hl hP hD hS
  have hown : s.vm.findClass "HashedLearner" = some m.cls := hown
  have hl : lv_has ls 2 [(0, .ref h), (1, .int v)] := hl
  refine lv_aload_n hx hb d_H_index_0 rfl (lv_at hl 0 rfl) ?_
  refine lv_iload_n hx hb d_H_index_1 rfl (lv_at hl 1 rfl) ?_
  have hPc : va_P D hq_cl ([hq_o7 h lna y rra (nI od) (nI hd) rsa (nI so) z o tl b mma vva wc, hq_aq rra (G 4) 4 fr, hq_o6 z za zb (nI q), hq_ai za (G 0) 247 th, hq_ai zb (G 0) 247 tv, hq_o1 x xa xb xc (nI k) (hq_z lab) lb im, hq_ai xa (G 0) 12 fh, hq_ai xb (G 0) 12 fv, hq_ai xc (G 2) 12 fl, hq_o0 y ya yb (nI nc) (hq_z cd), hq_ai ya (G 2) 3 cl, hq_ai yb (G 2) 3 cr, hq_o4 b wa sa ca ru, hq_ai wa (G 0) n wt, hq_al sa (G 1) n su, hq_al ca (G 1) n sc] ++ Z) H := hP
  have hDc : va_D A ([hq_o7 h lna y rra (nI od) (nI hd) rsa (nI so) z o tl b mma vva wc, hq_aq rra (G 4) 4 fr, hq_o6 z za zb (nI q), hq_ai za (G 0) 247 th, hq_ai zb (G 0) 247 tv, hq_o1 x xa xb xc (nI k) (hq_z lab) lb im, hq_ai xa (G 0) 12 fh, hq_ai xb (G 0) 12 fv, hq_ai xc (G 2) 12 fl, hq_o0 y ya yb (nI nc) (hq_z cd), hq_ai ya (G 2) 3 cl, hq_ai yb (G 2) 3 cr, hq_o4 b wa sa ca ru, hq_ai wa (G 0) n wt, hq_al sa (G 1) n su, hq_al ca (G 1) n sc] ++ Z) := hD
  refine hq_i (hq_rV (As := [.int v]) (rest := []) hx hb hml hown hts (c_H_hasTerm_do l D G A Z h lna y rra od hd rsa so z o tl b mma vva wc fr za zb th tv q x xa xb xc fh fv fl k lab lb im ya yb cl cr nc cd wa sa ca n wt su sc ru v (by first | assumption | omega) (by first | assumption | omega) (by first | assumption | omega) (by first | assumption | omega) (by first | assumption | omega) (by first | assumption | omega) (by first | assumption | omega) (by first | assumption | omega)) yy_H_hasTerm lk_H_143 hA hK hN hS hPc hDc 0 7 rfl rfl rfl hl.1 rfl (Nat.le_of_ble_eq_true rfl) d_H_index_2 ⟨by decide, by decide⟩ ⟨by decide, by decide⟩) hS (fun r2 u2 H locs w2 hP hD hS => ?_)
  have hP : va_P D hq_cl ([hq_o7 h lna y rra (nI od) (nI hd) rsa (nI so) z o tl b mma vva wc, hq_aq rra (G 4) 4 fr, hq_o6 z za zb (nI u2.1), hq_ai za (G 0) 247 u2.2.1, hq_ai zb (G 0) 247 u2.2.2, hq_o1 x xa xb xc (nI k) (hq_z lab) lb im, hq_ai xa (G 0) 12 fh, hq_ai xb (G 0) 12 fv, hq_ai xc (G 2) 12 fl, hq_o0 y ya yb (nI nc) (hq_z cd), hq_ai ya (G 2) 3 cl, hq_ai yb (G 2) 3 cr, hq_o4 b wa sa ca ru, hq_ai wa (G 0) n wt, hq_al sa (G 1) n su, hq_al ca (G 1) n sc] ++ Z) H := hP
  have hD : va_D A ([hq_o7 h lna y rra (nI od) (nI hd) rsa (nI so) z o tl b mma vva wc, hq_aq rra (G 4) 4 fr, hq_o6 z za zb (nI u2.1), hq_ai za (G 0) 247 u2.2.1, hq_ai zb (G 0) 247 u2.2.2, hq_o1 x xa xb xc (nI k) (hq_z lab) lb im, hq_ai xa (G 0) 12 fh, hq_ai xb (G 0) 12 fv, hq_ai xc (G 2) 12 fl, hq_o0 y ya yb (nI nc) (hq_z cd), hq_ai ya (G 2) 3 cl, hq_ai yb (G 2) 3 cr, hq_o4 b wa sa ca ru, hq_ai wa (G 0) n wt, hq_al sa (G 1) n su, hq_al ca (G 1) n sc] ++ Z) := hD
  obtain ⟨q2, th2, tv2⟩ := u2
  obtain ⟨w2, hu2⟩ := w2
  subst w2
  have hP : va_P D hq_cl ([hq_o7 h lna y rra (nI od) (nI hd) rsa (nI so) z o tl b mma vva wc, hq_aq rra (G 4) 4 fr, hq_o6 z za zb (nI q2), hq_ai za (G 0) 247 th2, hq_ai zb (G 0) 247 tv2, hq_o1 x xa xb xc (nI k) (hq_z lab) lb im, hq_ai xa (G 0) 12 fh, hq_ai xb (G 0) 12 fv, hq_ai xc (G 2) 12 fl, hq_o0 y ya yb (nI nc) (hq_z cd), hq_ai ya (G 2) 3 cl, hq_ai yb (G 2) 3 cr, hq_o4 b wa sa ca ru, hq_ai wa (G 0) n wt, hq_al sa (G 1) n su, hq_al ca (G 1) n sc] ++ Z) H := hP
  have hD : va_D A ([hq_o7 h lna y rra (nI od) (nI hd) rsa (nI so) z o tl b mma vva wc, hq_aq rra (G 4) 4 fr, hq_o6 z za zb (nI q2), hq_ai za (G 0) 247 th2, hq_ai zb (G 0) 247 tv2, hq_o1 x xa xb xc (nI k) (hq_z lab) lb im, hq_ai xa (G 0) 12 fh, hq_ai xb (G 0) 12 fv, hq_ai xc (G 2) 12 fl, hq_o0 y ya yb (nI nc) (hq_z cd), hq_ai ya (G 2) 3 cl, hq_ai yb (G 2) 3 cr, hq_o4 b wa sa ca ru, hq_ai wa (G 0) n wt, hq_al sa (G 1) n su, hq_al ca (G 1) n sc] ++ Z) := hD
  refine lv_if_eq (tgt := 27) hx hb d_H_index_5 rfl (fun c5 => ?_) (fun c5 => ?_)
  · -- 5 taken
    have c5 : ¬ (f_Table_has ((hq_tms fh fv fl k cl cr nc).length) v) = true := by rw [hq_z0.mp c5]; decide
    refine lv_iconst (v := (-1)) hx hb d_H_index_27 (by decide) ?_
    exact hret (-1) (q2, th2, tv2) H locs 28 ls d_H_index_28 (by rw [hq_has_no c5]) hP hD hS
  · -- 5 not taken
    have c5 : (f_Table_has ((hq_tms fh fv fl k cl cr nc).length) v) = true := hq_zn.mp c5
    obtain ⟨rfl, rfl, rfl⟩ := hu2 c5
    · skip
      obtain ⟨j, hj, rfl⟩ := hq_has_of (by omega) c5
      refine lv_aload_n hx hb d_H_index_8 rfl (lv_at hl 0 rfl) ?_
      refine va_get (D := D) (ci := 7) (v := .ref b) (C := R_H) (T := F_H) (N := 14) hx hb hts uw_H hown hK hP 0 rfl rfl 10 (by decide) (hts _ fl_H_81) (fun _ h9 => h9) rfl d_H_index_9 ?_
      refine lv_aload_n hx hb d_H_index_12 rfl (lv_at hl 0 rfl) ?_
      refine va_get (D := D) (ci := 7) (v := .ref z) (C := R_H) (T := F_H) (N := 14) hx hb hts uw_H hown hK hP 0 rfl rfl 7 (by decide) (hts _ fl_H_45) (fun _ h9 => h9) rfl d_H_index_13 ?_
      refine va_get (D := D) (ci := 6) (v := .ref za) (C := R_Terms) (T := F_Terms) (N := 3) hx hb hts uw_Terms hown hK hP 2 rfl rfl 0 (by decide) (hts _ fl_H_147) (fun _ h9 => h9) rfl d_H_index_16 ?_
      refine lv_iload_n hx hb d_H_index_19 rfl (lv_at hl 1 rfl) ?_
      refine hq_iald (j := j) hx hb hK hP 3 rfl (by omega) (by omega) d_H_index_20 ?_
      refine hq_topi (x' := ((hq_tms fh fv fl k cl cr nc).getD j (0, 0)).1) ((hq_hold_at (tv := tv) hj).1) ?_
      have hPc : va_P D hq_cl ([hq_o4 b wa sa ca ru, hq_ai wa (G 0) n wt, hq_al sa (G 1) n su, hq_al ca (G 1) n sc] ++ ([hq_o7 h lna y rra (nI od) (nI hd) rsa (nI so) z o tl b mma vva wc, hq_aq rra (G 4) 4 fr, hq_o6 z za zb (nI ((hq_tms fh fv fl k cl cr nc).length)), hq_ai za (G 0) 247 (hq_wr upd th 0 ((hq_tms fh fv fl k cl cr nc).map Prod.fst)), hq_ai zb (G 0) 247 (hq_wr upd tv 0 ((hq_tms fh fv fl k cl cr nc).map Prod.snd)), hq_o1 x xa xb xc (nI k) (hq_z lab) lb im, hq_ai xa (G 0) 12 fh, hq_ai xb (G 0) 12 fv, hq_ai xc (G 2) 12 fl, hq_o0 y ya yb (nI nc) (hq_z cd), hq_ai ya (G 2) 3 cl, hq_ai yb (G 2) 3 cr] ++ Z)) H := va_P.part (cx := [hq_o4 b wa sa ca ru, hq_ai wa (G 0) n wt, hq_al sa (G 1) n su, hq_al ca (G 1) n sc, hq_o7 h lna y rra (nI od) (nI hd) rsa (nI so) z o tl b mma vva wc, hq_aq rra (G 4) 4 fr, hq_o6 z za zb (nI ((hq_tms fh fv fl k cl cr nc).length)), hq_ai za (G 0) 247 (hq_wr upd th 0 ((hq_tms fh fv fl k cl cr nc).map Prod.fst)), hq_ai zb (G 0) 247 (hq_wr upd tv 0 ((hq_tms fh fv fl k cl cr nc).map Prod.snd)), hq_o1 x xa xb xc (nI k) (hq_z lab) lb im, hq_ai xa (G 0) 12 fh, hq_ai xb (G 0) 12 fv, hq_ai xc (G 2) 12 fl, hq_o0 y ya yb (nI nc) (hq_z cd), hq_ai ya (G 2) 3 cl, hq_ai yb (G 2) 3 cr]) hP [12, 13, 14, 15, 0, 1, 2, 3, 4, 5, 6, 7, 8, 9, 10, 11] rfl
      have hDc : va_D A ([hq_o4 b wa sa ca ru, hq_ai wa (G 0) n wt, hq_al sa (G 1) n su, hq_al ca (G 1) n sc] ++ ([hq_o7 h lna y rra (nI od) (nI hd) rsa (nI so) z o tl b mma vva wc, hq_aq rra (G 4) 4 fr, hq_o6 z za zb (nI ((hq_tms fh fv fl k cl cr nc).length)), hq_ai za (G 0) 247 (hq_wr upd th 0 ((hq_tms fh fv fl k cl cr nc).map Prod.fst)), hq_ai zb (G 0) 247 (hq_wr upd tv 0 ((hq_tms fh fv fl k cl cr nc).map Prod.snd)), hq_o1 x xa xb xc (nI k) (hq_z lab) lb im, hq_ai xa (G 0) 12 fh, hq_ai xb (G 0) 12 fv, hq_ai xc (G 2) 12 fl, hq_o0 y ya yb (nI nc) (hq_z cd), hq_ai ya (G 2) 3 cl, hq_ai yb (G 2) 3 cr] ++ Z)) := va_D.part (cx := [hq_o4 b wa sa ca ru, hq_ai wa (G 0) n wt, hq_al sa (G 1) n su, hq_al ca (G 1) n sc, hq_o7 h lna y rra (nI od) (nI hd) rsa (nI so) z o tl b mma vva wc, hq_aq rra (G 4) 4 fr, hq_o6 z za zb (nI ((hq_tms fh fv fl k cl cr nc).length)), hq_ai za (G 0) 247 (hq_wr upd th 0 ((hq_tms fh fv fl k cl cr nc).map Prod.fst)), hq_ai zb (G 0) 247 (hq_wr upd tv 0 ((hq_tms fh fv fl k cl cr nc).map Prod.snd)), hq_o1 x xa xb xc (nI k) (hq_z lab) lb im, hq_ai xa (G 0) 12 fh, hq_ai xb (G 0) 12 fv, hq_ai xc (G 2) 12 fl, hq_o0 y ya yb (nI nc) (hq_z cd), hq_ai ya (G 2) 3 cl, hq_ai yb (G 2) 3 cr]) hD [12, 13, 14, 15, 0, 1, 2, 3, 4, 5, 6, 7, 8, 9, 10, 11] (by decide) rfl
      refine hq_iF (hq_rV (As := [.int (((hq_tms fh fv fl k cl cr nc).getD j (0, 0)).1)]) (rest := []) hx hb hml hown hts (c_Table_slotOf l D G A ([hq_o7 h lna y rra (nI od) (nI hd) rsa (nI so) z o tl b mma vva wc, hq_aq rra (G 4) 4 fr, hq_o6 z za zb (nI ((hq_tms fh fv fl k cl cr nc).length)), hq_ai za (G 0) 247 (hq_wr upd th 0 ((hq_tms fh fv fl k cl cr nc).map Prod.fst)), hq_ai zb (G 0) 247 (hq_wr upd tv 0 ((hq_tms fh fv fl k cl cr nc).map Prod.snd)), hq_o1 x xa xb xc (nI k) (hq_z lab) lb im, hq_ai xa (G 0) 12 fh, hq_ai xb (G 0) 12 fv, hq_ai xc (G 2) 12 fl, hq_o0 y ya yb (nI nc) (hq_z cd), hq_ai ya (G 2) 3 cl, hq_ai yb (G 2) 3 cr] ++ Z) b wa sa ca n wt su sc ru (((hq_tms fh fv fl k cl cr nc).getD j (0, 0)).1) (by first | assumption | omega)) yy_Table_slotOf lk_H_151 hA hK hN hS hPc hDc 0 4 rfl rfl rfl hl.1 rfl (Nat.le_of_ble_eq_true rfl) d_H_index_21 ⟨by decide, by decide⟩ ⟨by decide, by decide⟩) hS (fun H locs hP hD hS => ?_)
      have hP : va_P D hq_cl ([hq_o4 b wa sa ca ru, hq_ai wa (G 0) n wt, hq_al sa (G 1) n su, hq_al ca (G 1) n sc, hq_o7 h lna y rra (nI od) (nI hd) rsa (nI so) z o tl b mma vva wc, hq_aq rra (G 4) 4 fr, hq_o6 z za zb (nI ((hq_tms fh fv fl k cl cr nc).length)), hq_ai za (G 0) 247 (hq_wr upd th 0 ((hq_tms fh fv fl k cl cr nc).map Prod.fst)), hq_ai zb (G 0) 247 (hq_wr upd tv 0 ((hq_tms fh fv fl k cl cr nc).map Prod.snd)), hq_o1 x xa xb xc (nI k) (hq_z lab) lb im, hq_ai xa (G 0) 12 fh, hq_ai xb (G 0) 12 fv, hq_ai xc (G 2) 12 fl, hq_o0 y ya yb (nI nc) (hq_z cd), hq_ai ya (G 2) 3 cl, hq_ai yb (G 2) 3 cr] ++ Z) H := hP
      have hD : va_D A ([hq_o4 b wa sa ca ru, hq_ai wa (G 0) n wt, hq_al sa (G 1) n su, hq_al ca (G 1) n sc, hq_o7 h lna y rra (nI od) (nI hd) rsa (nI so) z o tl b mma vva wc, hq_aq rra (G 4) 4 fr, hq_o6 z za zb (nI ((hq_tms fh fv fl k cl cr nc).length)), hq_ai za (G 0) 247 (hq_wr upd th 0 ((hq_tms fh fv fl k cl cr nc).map Prod.fst)), hq_ai zb (G 0) 247 (hq_wr upd tv 0 ((hq_tms fh fv fl k cl cr nc).map Prod.snd)), hq_o1 x xa xb xc (nI k) (hq_z lab) lb im, hq_ai xa (G 0) 12 fh, hq_ai xb (G 0) 12 fv, hq_ai xc (G 2) 12 fl, hq_o0 y ya yb (nI nc) (hq_z cd), hq_ai ya (G 2) 3 cl, hq_ai yb (G 2) 3 cr] ++ Z) := hD
      refine lv_goto (tgt := 28) hx hb d_H_index_24 rfl ?_
      have hP := va_P.part (cx := [hq_o7 h lna y rra (nI od) (nI hd) rsa (nI so) z o tl b mma vva wc, hq_aq rra (G 4) 4 fr, hq_o6 z za zb (nI ((hq_tms fh fv fl k cl cr nc).length)), hq_ai za (G 0) 247 (hq_wr upd th 0 ((hq_tms fh fv fl k cl cr nc).map Prod.fst)), hq_ai zb (G 0) 247 (hq_wr upd tv 0 ((hq_tms fh fv fl k cl cr nc).map Prod.snd)), hq_o1 x xa xb xc (nI k) (hq_z lab) lb im, hq_ai xa (G 0) 12 fh, hq_ai xb (G 0) 12 fv, hq_ai xc (G 2) 12 fl, hq_o0 y ya yb (nI nc) (hq_z cd), hq_ai ya (G 2) 3 cl, hq_ai yb (G 2) 3 cr, hq_o4 b wa sa ca ru, hq_ai wa (G 0) n wt, hq_al sa (G 1) n su, hq_al ca (G 1) n sc]) hP [4, 5, 6, 7, 8, 9, 10, 11, 12, 13, 14, 15, 0, 1, 2, 3] rfl
      have hD := va_D.part (cx := [hq_o7 h lna y rra (nI od) (nI hd) rsa (nI so) z o tl b mma vva wc, hq_aq rra (G 4) 4 fr, hq_o6 z za zb (nI ((hq_tms fh fv fl k cl cr nc).length)), hq_ai za (G 0) 247 (hq_wr upd th 0 ((hq_tms fh fv fl k cl cr nc).map Prod.fst)), hq_ai zb (G 0) 247 (hq_wr upd tv 0 ((hq_tms fh fv fl k cl cr nc).map Prod.snd)), hq_o1 x xa xb xc (nI k) (hq_z lab) lb im, hq_ai xa (G 0) 12 fh, hq_ai xb (G 0) 12 fv, hq_ai xc (G 2) 12 fl, hq_o0 y ya yb (nI nc) (hq_z cd), hq_ai ya (G 2) 3 cl, hq_ai yb (G 2) 3 cr, hq_o4 b wa sa ca ru, hq_ai wa (G 0) n wt, hq_al sa (G 1) n su, hq_al ca (G 1) n sc]) hD [4, 5, 6, 7, 8, 9, 10, 11, 12, 13, 14, 15, 0, 1, 2, 3] (by decide) rfl
      exact hret (nI (hq_slot n (((hq_tms fh fv fl k cl cr nc).getD j (0, 0)).1))) ((hq_tms fh fv fl k cl cr nc).length, hq_wr upd th 0 ((hq_tms fh fv fl k cl cr nc).map Prod.fst), hq_wr upd tv 0 ((hq_tms fh fv fl k cl cr nc).map Prod.snd)) H locs 28 ls d_H_index_28 (by rw [hq_get_in hj (by omega)]) hP hD hS
theorem d_H_value_0 : decode b_H_value 0 = .ok (.aload_n 0, 1) := by decide +kernel
theorem d_H_value_1 : decode b_H_value 1 = .ok (.iload_n 1, 1) := by decide +kernel
theorem d_H_value_2 : decode b_H_value 2 = .ok (.invokevirtual 143, 3) := by decide +kernel
theorem d_H_value_5 : decode b_H_value 5 = .ok (.ifCond .eq (15), 3) := by decide +kernel
theorem d_H_value_8 : decode b_H_value 8 = .ok (.aload_n 0, 1) := by decide +kernel
theorem d_H_value_9 : decode b_H_value 9 = .ok (.getfield 45, 3) := by decide +kernel
theorem d_H_value_12 : decode b_H_value 12 = .ok (.getfield 155, 3) := by decide +kernel
theorem d_H_value_15 : decode b_H_value 15 = .ok (.iload_n 1, 1) := by decide +kernel
theorem d_H_value_16 : decode b_H_value 16 = .ok (.iaload, 1) := by decide +kernel
theorem d_H_value_17 : decode b_H_value 17 = .ok (.goto (4), 3) := by decide +kernel
theorem d_H_value_20 : decode b_H_value 20 = .ok (.iconst 0, 1) := by decide +kernel
theorem d_H_value_21 : decode b_H_value 21 = .ok (.ireturn, 1) := by decide +kernel
set_option maxHeartbeats 4000000 in
set_option maxRecDepth 100000 in
theorem c_H_value_no (l : Launch) (D : va_G) (G : Nat → ClassId) (A : Nat → Prop) (Z : va_W) (h : Nat) (lna : Nat) (y : Nat) (rra : Nat) (od : Nat) (hd : Nat) (rsa : Nat) (so : Nat) (z : Nat) (o : Nat) (tl : Nat) (b : Nat) (mma : Nat) (vva : Nat) (wc : Int32) (x : Int32) (hhd : hd = 0) : hq_FI l D G A y_H_value b_H_value 2 .int 2 [.ref h, .int x] ([hq_o7 h lna y rra (nI od) (nI hd) rsa (nI so) z o tl b mma vva wc] ++ Z) (0) ([hq_o7 h lna y rra (nI od) (nI hd) rsa (nI so) z o tl b mma vva wc] ++ Z) := by
  refine hq_bI (by decide) (Nat.le_of_ble_eq_true rfl) (fun _ _ _ => rfl) ?_
  intro p e s m args below meth c Q hx hb hml hts hown hA hK hN hret ls H locs hl hP hD hS
  have hown : s.vm.findClass "HashedLearner" = some m.cls := hown
  have hl : lv_has ls 2 [(0, .ref h), (1, .int x)] := hl
  refine lv_aload_n hx hb d_H_value_0 rfl (lv_at hl 0 rfl) ?_
  refine lv_iload_n hx hb d_H_value_1 rfl (lv_at hl 1 rfl) ?_
  have hPc : va_P D hq_cl ([hq_o7 h lna y rra (nI od) (nI hd) rsa (nI so) z o tl b mma vva wc] ++ Z) H := hP
  have hDc : va_D A ([hq_o7 h lna y rra (nI od) (nI hd) rsa (nI so) z o tl b mma vva wc] ++ Z) := hD
  refine hq_iF (hq_rV (As := [.int x]) (rest := []) hx hb hml hown hts (c_H_hasTerm_no l D G A Z h lna y rra od hd rsa so z o tl b mma vva wc x (by first | assumption | omega)) yy_H_hasTerm lk_H_143 hA hK hN hS hPc hDc 0 7 rfl rfl rfl hl.1 rfl (Nat.le_of_ble_eq_true rfl) d_H_value_2 ⟨by decide, by decide⟩ ⟨by decide, by decide⟩) hS (fun H locs hP hD hS => ?_)
  have hP : va_P D hq_cl ([hq_o7 h lna y rra (nI od) (nI hd) rsa (nI so) z o tl b mma vva wc] ++ Z) H := hP
  have hD : va_D A ([hq_o7 h lna y rra (nI od) (nI hd) rsa (nI so) z o tl b mma vva wc] ++ Z) := hD
  refine lv_if_eq (tgt := 20) hx hb d_H_value_5 rfl (fun c5 => ?_) (fun c5 => ?_)
  · -- 5 taken
    have c5 : ¬ false = true := by rw [hq_z0.mp c5]; decide
    refine lv_iconst (v := 0) hx hb d_H_value_20 (by decide) ?_
    exact hret 0 () H locs 21 ls d_H_value_21 (by simp [c5]) hP hD hS
  · -- 5 not taken
    have c5 : false = true := hq_zn.mp c5
    exact absurd c5 (by decide)
set_option maxHeartbeats 4000000 in
set_option maxRecDepth 100000 in
theorem c_H_value_do (l : Launch) (D : va_G) (G : Nat → ClassId) (A : Nat → Prop) (Z : va_W) (h : Nat) (lna : Nat) (y : Nat) (rra : Nat) (od : Nat) (hd : Nat) (rsa : Nat) (so : Nat) (z : Nat) (o : Nat) (tl : Nat) (b : Nat) (mma : Nat) (vva : Nat) (wc : Int32) (fr : Nat → Option Nat) (za : Nat) (zb : Nat) (th : Nat → Int32) (tv : Nat → Int32) (q : Nat) (x : Nat) (xa : Nat) (xb : Nat) (xc : Nat) (fh : Nat → Int32) (fv : Nat → Int32) (fl : Nat → Int32) (k : Nat) (lab : Bool) (lb : Int32) (im : Int32) (ya : Nat) (yb : Nat) (cl : Nat → Int32) (cr : Nat → Int32) (nc : Nat) (cd : Bool) (wa : Nat) (sa : Nat) (ca : Nat) (n : Nat) (wt : Nat → Int32) (su : Nat → Int64) (sc : Nat → Int64) (ru : Int32) (v : Int32) (hhd : 0 < hd) (hhd4 : hd ≤ 4) (hod : od < 4) (hfr : fr od = some x) (hk : k ≤ 12) (hnc : nc ≤ 3) (hq : (hq_tms fh fv fl k cl cr nc).length ≤ 247) (hn : hq_pow n) : hq_MI l D G A y_H_value b_H_value 2 .int 7 0 0 [.ref h, .int v] ([hq_o7 h lna y rra (nI od) (nI hd) rsa (nI so) z o tl b mma vva wc, hq_aq rra (G 4) 4 fr, hq_o6 z za zb (nI q), hq_ai za (G 0) 247 th, hq_ai zb (G 0) 247 tv, hq_o1 x xa xb xc (nI k) (hq_z lab) lb im, hq_ai xa (G 0) 12 fh, hq_ai xb (G 0) 12 fv, hq_ai xc (G 2) 12 fl, hq_o0 y ya yb (nI nc) (hq_z cd), hq_ai ya (G 2) 3 cl, hq_ai yb (G 2) 3 cr, hq_o4 b wa sa ca ru, hq_ai wa (G 0) n wt, hq_al sa (G 1) n su, hq_al ca (G 1) n sc] ++ Z) (fun r (u : Nat × (Nat → Int32) × (Nat → Int32)) => r = hq_get (fun j => ((hq_tms fh fv fl k cl cr nc).getD j (0, 0)).2) ((hq_tms fh fv fl k cl cr nc).length) v 0) (fun (u : Nat × (Nat → Int32) × (Nat → Int32)) => [hq_o7 h lna y rra (nI od) (nI hd) rsa (nI so) z o tl b mma vva wc, hq_aq rra (G 4) 4 fr, hq_o6 z za zb (nI u.1), hq_ai za (G 0) 247 u.2.1, hq_ai zb (G 0) 247 u.2.2, hq_o1 x xa xb xc (nI k) (hq_z lab) lb im, hq_ai xa (G 0) 12 fh, hq_ai xb (G 0) 12 fv, hq_ai xc (G 2) 12 fl, hq_o0 y ya yb (nI nc) (hq_z cd), hq_ai ya (G 2) 3 cl, hq_ai yb (G 2) 3 cr, hq_o4 b wa sa ca ru, hq_ai wa (G 0) n wt, hq_al sa (G 1) n su, hq_al ca (G 1) n sc] ++ Z) := by
  refine hq_bI (by decide) (Nat.le_of_ble_eq_true rfl) (fun _ _ _ => rfl) ?_
  intro p e s m args below meth c Q hx hb hml hts hown hA hK hN hret ls H locs hl hP hD hS
  have hown : s.vm.findClass "HashedLearner" = some m.cls := hown
  have hl : lv_has ls 2 [(0, .ref h), (1, .int v)] := hl
  refine lv_aload_n hx hb d_H_value_0 rfl (lv_at hl 0 rfl) ?_
  refine lv_iload_n hx hb d_H_value_1 rfl (lv_at hl 1 rfl) ?_
  have hPc : va_P D hq_cl ([hq_o7 h lna y rra (nI od) (nI hd) rsa (nI so) z o tl b mma vva wc, hq_aq rra (G 4) 4 fr, hq_o6 z za zb (nI q), hq_ai za (G 0) 247 th, hq_ai zb (G 0) 247 tv, hq_o1 x xa xb xc (nI k) (hq_z lab) lb im, hq_ai xa (G 0) 12 fh, hq_ai xb (G 0) 12 fv, hq_ai xc (G 2) 12 fl, hq_o0 y ya yb (nI nc) (hq_z cd), hq_ai ya (G 2) 3 cl, hq_ai yb (G 2) 3 cr, hq_o4 b wa sa ca ru, hq_ai wa (G 0) n wt, hq_al sa (G 1) n su, hq_al ca (G 1) n sc] ++ Z) H := hP
  have hDc : va_D A ([hq_o7 h lna y rra (nI od) (nI hd) rsa (nI so) z o tl b mma vva wc, hq_aq rra (G 4) 4 fr, hq_o6 z za zb (nI q), hq_ai za (G 0) 247 th, hq_ai zb (G 0) 247 tv, hq_o1 x xa xb xc (nI k) (hq_z lab) lb im, hq_ai xa (G 0) 12 fh, hq_ai xb (G 0) 12 fv, hq_ai xc (G 2) 12 fl, hq_o0 y ya yb (nI nc) (hq_z cd), hq_ai ya (G 2) 3 cl, hq_ai yb (G 2) 3 cr, hq_o4 b wa sa ca ru, hq_ai wa (G 0) n wt, hq_al sa (G 1) n su, hq_al ca (G 1) n sc] ++ Z) := hD
  refine hq_i (hq_rV (As := [.int v]) (rest := []) hx hb hml hown hts (c_H_hasTerm_do l D G A Z h lna y rra od hd rsa so z o tl b mma vva wc fr za zb th tv q x xa xb xc fh fv fl k lab lb im ya yb cl cr nc cd wa sa ca n wt su sc ru v (by first | assumption | omega) (by first | assumption | omega) (by first | assumption | omega) (by first | assumption | omega) (by first | assumption | omega) (by first | assumption | omega) (by first | assumption | omega) (by first | assumption | omega)) yy_H_hasTerm lk_H_143 hA hK hN hS hPc hDc 0 7 rfl rfl rfl hl.1 rfl (Nat.le_of_ble_eq_true rfl) d_H_value_2 ⟨by decide, by decide⟩ ⟨by decide, by decide⟩) hS (fun r2 u2 H locs w2 hP hD hS => ?_)
  have hP : va_P D hq_cl ([hq_o7 h lna y rra (nI od) (nI hd) rsa (nI so) z o tl b mma vva wc, hq_aq rra (G 4) 4 fr, hq_o6 z za zb (nI u2.1), hq_ai za (G 0) 247 u2.2.1, hq_ai zb (G 0) 247 u2.2.2, hq_o1 x xa xb xc (nI k) (hq_z lab) lb im, hq_ai xa (G 0) 12 fh, hq_ai xb (G 0) 12 fv, hq_ai xc (G 2) 12 fl, hq_o0 y ya yb (nI nc) (hq_z cd), hq_ai ya (G 2) 3 cl, hq_ai yb (G 2) 3 cr, hq_o4 b wa sa ca ru, hq_ai wa (G 0) n wt, hq_al sa (G 1) n su, hq_al ca (G 1) n sc] ++ Z) H := hP
  have hD : va_D A ([hq_o7 h lna y rra (nI od) (nI hd) rsa (nI so) z o tl b mma vva wc, hq_aq rra (G 4) 4 fr, hq_o6 z za zb (nI u2.1), hq_ai za (G 0) 247 u2.2.1, hq_ai zb (G 0) 247 u2.2.2, hq_o1 x xa xb xc (nI k) (hq_z lab) lb im, hq_ai xa (G 0) 12 fh, hq_ai xb (G 0) 12 fv, hq_ai xc (G 2) 12 fl, hq_o0 y ya yb (nI nc) (hq_z cd), hq_ai ya (G 2) 3 cl, hq_ai yb (G 2) 3 cr, hq_o4 b wa sa ca ru, hq_ai wa (G 0) n wt, hq_al sa (G 1) n su, hq_al ca (G 1) n sc] ++ Z) := hD
  obtain ⟨q2, th2, tv2⟩ := u2
  obtain ⟨w2, hu2⟩ := w2
  subst w2
  have hP : va_P D hq_cl ([hq_o7 h lna y rra (nI od) (nI hd) rsa (nI so) z o tl b mma vva wc, hq_aq rra (G 4) 4 fr, hq_o6 z za zb (nI q2), hq_ai za (G 0) 247 th2, hq_ai zb (G 0) 247 tv2, hq_o1 x xa xb xc (nI k) (hq_z lab) lb im, hq_ai xa (G 0) 12 fh, hq_ai xb (G 0) 12 fv, hq_ai xc (G 2) 12 fl, hq_o0 y ya yb (nI nc) (hq_z cd), hq_ai ya (G 2) 3 cl, hq_ai yb (G 2) 3 cr, hq_o4 b wa sa ca ru, hq_ai wa (G 0) n wt, hq_al sa (G 1) n su, hq_al ca (G 1) n sc] ++ Z) H := hP
  have hD : va_D A ([hq_o7 h lna y rra (nI od) (nI hd) rsa (nI so) z o tl b mma vva wc, hq_aq rra (G 4) 4 fr, hq_o6 z za zb (nI q2), hq_ai za (G 0) 247 th2, hq_ai zb (G 0) 247 tv2, hq_o1 x xa xb xc (nI k) (hq_z lab) lb im, hq_ai xa (G 0) 12 fh, hq_ai xb (G 0) 12 fv, hq_ai xc (G 2) 12 fl, hq_o0 y ya yb (nI nc) (hq_z cd), hq_ai ya (G 2) 3 cl, hq_ai yb (G 2) 3 cr, hq_o4 b wa sa ca ru, hq_ai wa (G 0) n wt, hq_al sa (G 1) n su, hq_al ca (G 1) n sc] ++ Z) := hD
  refine lv_if_eq (tgt := 20) hx hb d_H_value_5 rfl (fun c5 => ?_) (fun c5 => ?_)
  · -- 5 taken
    have c5 : ¬ (f_Table_has ((hq_tms fh fv fl k cl cr nc).length) v) = true := by rw [hq_z0.mp c5]; decide
    refine lv_iconst (v := 0) hx hb d_H_value_20 (by decide) ?_
    exact hret 0 (q2, th2, tv2) H locs 21 ls d_H_value_21 (by rw [hq_has_no c5]) hP hD hS
  · -- 5 not taken
    have c5 : (f_Table_has ((hq_tms fh fv fl k cl cr nc).length) v) = true := hq_zn.mp c5
    obtain ⟨rfl, rfl, rfl⟩ := hu2 c5
    · skip
      obtain ⟨j, hj, rfl⟩ := hq_has_of (by omega) c5
      refine lv_aload_n hx hb d_H_value_8 rfl (lv_at hl 0 rfl) ?_
      refine va_get (D := D) (ci := 7) (v := .ref z) (C := R_H) (T := F_H) (N := 14) hx hb hts uw_H hown hK hP 0 rfl rfl 7 (by decide) (hts _ fl_H_45) (fun _ h9 => h9) rfl d_H_value_9 ?_
      refine va_get (D := D) (ci := 6) (v := .ref zb) (C := R_Terms) (T := F_Terms) (N := 3) hx hb hts uw_Terms hown hK hP 2 rfl rfl 1 (by decide) (hts _ fl_H_155) (fun _ h9 => h9) rfl d_H_value_12 ?_
      refine lv_iload_n hx hb d_H_value_15 rfl (lv_at hl 1 rfl) ?_
      refine hq_iald (j := j) hx hb hK hP 4 rfl (by omega) (by omega) d_H_value_16 ?_
      refine hq_topi (x' := ((hq_tms fh fv fl k cl cr nc).getD j (0, 0)).2) ((hq_hold_at (th := th) hj).2) ?_
      refine lv_goto (tgt := 21) hx hb d_H_value_17 rfl ?_
      exact hret (((hq_tms fh fv fl k cl cr nc).getD j (0, 0)).2) ((hq_tms fh fv fl k cl cr nc).length, hq_wr upd th 0 ((hq_tms fh fv fl k cl cr nc).map Prod.fst), hq_wr upd tv 0 ((hq_tms fh fv fl k cl cr nc).map Prod.snd)) H locs 21 ls d_H_value_21 (by rw [hq_get_in hj (by omega)]) hP hD hS
theorem d_H_hash_0 : decode b_H_hash 0 = .ok (.aload_n 0, 1) := by decide +kernel
theorem d_H_hash_1 : decode b_H_hash 1 = .ok (.getfield 33, 3) := by decide +kernel
theorem d_H_hash_4 : decode b_H_hash 4 = .ok (.ifCond .eq (23), 3) := by decide +kernel
theorem d_H_hash_7 : decode b_H_hash 7 = .ok (.iload_n 1, 1) := by decide +kernel
theorem d_H_hash_8 : decode b_H_hash 8 = .ok (.ifCond .lt (19), 3) := by decide +kernel
theorem d_H_hash_11 : decode b_H_hash 11 = .ok (.iload_n 1, 1) := by decide +kernel
theorem d_H_hash_12 : decode b_H_hash 12 = .ok (.aload_n 0, 1) := by decide +kernel
theorem d_H_hash_13 : decode b_H_hash 13 = .ok (.getfield 25, 3) := by decide +kernel
theorem d_H_hash_16 : decode b_H_hash 16 = .ok (.aload_n 0, 1) := by decide +kernel
theorem d_H_hash_17 : decode b_H_hash 17 = .ok (.getfield 29, 3) := by decide +kernel
theorem d_H_hash_20 : decode b_H_hash 20 = .ok (.aaload, 1) := by decide +kernel
theorem d_H_hash_21 : decode b_H_hash 21 = .ok (.getfield 104, 3) := by decide +kernel
theorem d_H_hash_24 : decode b_H_hash 24 = .ok (.if_icmp .lt (5), 3) := by decide +kernel
theorem d_H_hash_27 : decode b_H_hash 27 = .ok (.iconst 0, 1) := by decide +kernel
theorem d_H_hash_28 : decode b_H_hash 28 = .ok (.ireturn, 1) := by decide +kernel
theorem d_H_hash_29 : decode b_H_hash 29 = .ok (.aload_n 0, 1) := by decide +kernel
theorem d_H_hash_30 : decode b_H_hash 30 = .ok (.getfield 25, 3) := by decide +kernel
theorem d_H_hash_33 : decode b_H_hash 33 = .ok (.aload_n 0, 1) := by decide +kernel
theorem d_H_hash_34 : decode b_H_hash 34 = .ok (.getfield 29, 3) := by decide +kernel
theorem d_H_hash_37 : decode b_H_hash 37 = .ok (.aaload, 1) := by decide +kernel
theorem d_H_hash_38 : decode b_H_hash 38 = .ok (.getfield 158, 3) := by decide +kernel
theorem d_H_hash_41 : decode b_H_hash 41 = .ok (.iload_n 1, 1) := by decide +kernel
theorem d_H_hash_42 : decode b_H_hash 42 = .ok (.iaload, 1) := by decide +kernel
theorem d_H_hash_43 : decode b_H_hash 43 = .ok (.ireturn, 1) := by decide +kernel
set_option maxHeartbeats 4000000 in
set_option maxRecDepth 100000 in
theorem c_H_hash_no (l : Launch) (D : va_G) (G : Nat → ClassId) (A : Nat → Prop) (Z : va_W) (h : Nat) (lna : Nat) (y : Nat) (rra : Nat) (od : Nat) (hd : Nat) (rsa : Nat) (so : Nat) (z : Nat) (o : Nat) (tl : Nat) (b : Nat) (mma : Nat) (vva : Nat) (wc : Int32) (x : Int32) (hhd : hd = 0) : hq_FI l D G A y_H_hash b_H_hash 2 .int 0 [.ref h, .int x] ([hq_o7 h lna y rra (nI od) (nI hd) rsa (nI so) z o tl b mma vva wc] ++ Z) (0) ([hq_o7 h lna y rra (nI od) (nI hd) rsa (nI so) z o tl b mma vva wc] ++ Z) := by
  refine hq_bI (by decide) (Nat.le_of_ble_eq_true rfl) (fun _ _ _ => rfl) ?_
  intro p e s m args below meth c Q hx hb hml hts hown hA hK hN hret ls H locs hl hP hD hS
  have hown : s.vm.findClass "HashedLearner" = some m.cls := hown
  have hl : lv_has ls 2 [(0, .ref h), (1, .int x)] := hl
  refine lv_aload_n hx hb d_H_hash_0 rfl (lv_at hl 0 rfl) ?_
  refine va_get (D := D) (ci := 7) (v := .int (nI hd)) (C := R_H) (T := F_H) (N := 14) hx hb hts uw_H hown hK hP 0 rfl rfl 4 (by decide) (hts _ fl_H_33) (fun _ h9 => h9) rfl d_H_hash_1 ?_
  refine lv_if_eq (tgt := 27) hx hb d_H_hash_4 rfl (fun c4 => ?_) (fun c4 => ?_)
  · -- 4 taken
    have c4 : hd = 0 := (nI_eq (a := hd) (b := 0) (by omega) (by omega)).mp c4
    refine lv_iconst (v := 0) hx hb d_H_hash_27 (by decide) ?_
    exact hret 0 () H locs 28 ls d_H_hash_28 (by simp [c4]) hP hD hS
  · -- 4 not taken
    have c4 : ¬ hd = 0 := fun h => c4 ((nI_eq (a := hd) (b := 0) (by omega) (by omega)).mpr h)
    exact absurd hhd c4
