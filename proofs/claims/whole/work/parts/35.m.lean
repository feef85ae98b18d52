theorem d_M_spread_0 : decode b_M_spread 0 = .ok (.aload_n 0, 1) := by decide +kernel
theorem d_M_spread_1 : decode b_M_spread 1 = .ok (.iload_n 1, 1) := by decide +kernel
theorem d_M_spread_2 : decode b_M_spread 2 = .ok (.invokevirtual 164, 3) := by decide +kernel
theorem d_M_spread_5 : decode b_M_spread 5 = .ok (.istore_n 2, 1) := by decide +kernel
theorem d_M_spread_6 : decode b_M_spread 6 = .ok (.aload_n 0, 1) := by decide +kernel
theorem d_M_spread_7 : decode b_M_spread 7 = .ok (.iconst 0, 1) := by decide +kernel
theorem d_M_spread_8 : decode b_M_spread 8 = .ok (.putfield 161, 3) := by decide +kernel
theorem d_M_spread_11 : decode b_M_spread 11 = .ok (.iconst 0, 1) := by decide +kernel
theorem d_M_spread_12 : decode b_M_spread 12 = .ok (.istore_n 3, 1) := by decide +kernel
theorem d_M_spread_13 : decode b_M_spread 13 = .ok (.iload_n 3, 1) := by decide +kernel
theorem d_M_spread_14 : decode b_M_spread 14 = .ok (.aload_n 0, 1) := by decide +kernel
theorem d_M_spread_15 : decode b_M_spread 15 = .ok (.getfield 119, 3) := by decide +kernel
theorem d_M_spread_18 : decode b_M_spread 18 = .ok (.if_icmp .ge (30), 3) := by decide +kernel
theorem d_M_spread_21 : decode b_M_spread 21 = .ok (.iload_n 2, 1) := by decide +kernel
theorem d_M_spread_22 : decode b_M_spread 22 = .ok (.ifCond .eq (26), 3) := by decide +kernel
theorem d_M_spread_25 : decode b_M_spread 25 = .ok (.aload_n 0, 1) := by decide +kernel
theorem d_M_spread_26 : decode b_M_spread 26 = .ok (.aload_n 0, 1) := by decide +kernel
theorem d_M_spread_27 : decode b_M_spread 27 = .ok (.getfield 25, 3) := by decide +kernel
theorem d_M_spread_30 : decode b_M_spread 30 = .ok (.iload_n 3, 1) := by decide +kernel
theorem d_M_spread_31 : decode b_M_spread 31 = .ok (.iaload, 1) := by decide +kernel
theorem d_M_spread_32 : decode b_M_spread 32 = .ok (.aload_n 0, 1) := by decide +kernel
theorem d_M_spread_33 : decode b_M_spread 33 = .ok (.getfield 28, 3) := by decide +kernel
theorem d_M_spread_36 : decode b_M_spread 36 = .ok (.iload_n 3, 1) := by decide +kernel
theorem d_M_spread_37 : decode b_M_spread 37 = .ok (.iaload, 1) := by decide +kernel
theorem d_M_spread_38 : decode b_M_spread 38 = .ok (.i2l, 1) := by decide +kernel
theorem d_M_spread_39 : decode b_M_spread 39 = .ok (.invokevirtual 167, 3) := by decide +kernel
theorem d_M_spread_42 : decode b_M_spread 42 = .ok (.iinc 3 (1), 3) := by decide +kernel
theorem d_M_spread_45 : decode b_M_spread 45 = .ok (.goto (-32), 3) := by decide +kernel
theorem d_M_spread_48 : decode b_M_spread 48 = .ok (.iconst 0, 1) := by decide +kernel
theorem d_M_spread_49 : decode b_M_spread 49 = .ok (.istore_n 3, 1) := by decide +kernel
theorem d_M_spread_50 : decode b_M_spread 50 = .ok (.iload_n 3, 1) := by decide +kernel
theorem d_M_spread_51 : decode b_M_spread 51 = .ok (.aload_n 0, 1) := by decide +kernel
theorem d_M_spread_52 : decode b_M_spread 52 = .ok (.getfield 74, 3) := by decide +kernel
theorem d_M_spread_55 : decode b_M_spread 55 = .ok (.if_icmp .ge (159), 3) := by decide +kernel
theorem d_M_spread_58 : decode b_M_spread 58 = .ok (.iconst 0, 1) := by decide +kernel
theorem d_M_spread_59 : decode b_M_spread 59 = .ok (.istore 4, 2) := by decide +kernel
theorem d_M_spread_61 : decode b_M_spread 61 = .ok (.iload 4, 2) := by decide +kernel
theorem d_M_spread_63 : decode b_M_spread 63 = .ok (.aload_n 0, 1) := by decide +kernel
theorem d_M_spread_64 : decode b_M_spread 64 = .ok (.getfield 119, 3) := by decide +kernel
theorem d_M_spread_67 : decode b_M_spread 67 = .ok (.aload_n 0, 1) := by decide +kernel
theorem d_M_spread_68 : decode b_M_spread 68 = .ok (.getfield 119, 3) := by decide +kernel
theorem d_M_spread_71 : decode b_M_spread 71 = .ok (.imul, 1) := by decide +kernel
theorem d_M_spread_72 : decode b_M_spread 72 = .ok (.if_icmp .ge (136), 3) := by decide +kernel
theorem d_M_spread_75 : decode b_M_spread 75 = .ok (.iload 4, 2) := by decide +kernel
theorem d_M_spread_77 : decode b_M_spread 77 = .ok (.aload_n 0, 1) := by decide +kernel
theorem d_M_spread_78 : decode b_M_spread 78 = .ok (.getfield 119, 3) := by decide +kernel
theorem d_M_spread_81 : decode b_M_spread 81 = .ok (.idiv, 1) := by decide +kernel
theorem d_M_spread_82 : decode b_M_spread 82 = .ok (.istore 5, 2) := by decide +kernel
theorem d_M_spread_84 : decode b_M_spread 84 = .ok (.iload 4, 2) := by decide +kernel
theorem d_M_spread_86 : decode b_M_spread 86 = .ok (.aload_n 0, 1) := by decide +kernel
theorem d_M_spread_87 : decode b_M_spread 87 = .ok (.getfield 119, 3) := by decide +kernel
theorem d_M_spread_90 : decode b_M_spread 90 = .ok (.irem, 1) := by decide +kernel
theorem d_M_spread_91 : decode b_M_spread 91 = .ok (.istore 6, 2) := by decide +kernel
theorem d_M_spread_93 : decode b_M_spread 93 = .ok (.aload_n 0, 1) := by decide +kernel
theorem d_M_spread_94 : decode b_M_spread 94 = .ok (.getfield 31, 3) := by decide +kernel
theorem d_M_spread_97 : decode b_M_spread 97 = .ok (.iload 5, 2) := by decide +kernel
theorem d_M_spread_99 : decode b_M_spread 99 = .ok (.iaload, 1) := by decide +kernel
theorem d_M_spread_100 : decode b_M_spread 100 = .ok (.aload_n 0, 1) := by decide +kernel
theorem d_M_spread_101 : decode b_M_spread 101 = .ok (.getfield 19, 3) := by decide +kernel
theorem d_M_spread_104 : decode b_M_spread 104 = .ok (.iload_n 3, 1) := by decide +kernel
theorem d_M_spread_105 : decode b_M_spread 105 = .ok (.iaload, 1) := by decide +kernel
theorem d_M_spread_106 : decode b_M_spread 106 = .ok (.if_icmp .ne (45), 3) := by decide +kernel
theorem d_M_spread_109 : decode b_M_spread 109 = .ok (.aload_n 0, 1) := by decide +kernel
theorem d_M_spread_110 : decode b_M_spread 110 = .ok (.getfield 31, 3) := by decide +kernel
theorem d_M_spread_113 : decode b_M_spread 113 = .ok (.iload 6, 2) := by decide +kernel
theorem d_M_spread_115 : decode b_M_spread 115 = .ok (.iaload, 1) := by decide +kernel
theorem d_M_spread_116 : decode b_M_spread 116 = .ok (.aload_n 0, 1) := by decide +kernel
theorem d_M_spread_117 : decode b_M_spread 117 = .ok (.getfield 22, 3) := by decide +kernel
theorem d_M_spread_120 : decode b_M_spread 120 = .ok (.iload_n 3, 1) := by decide +kernel
theorem d_M_spread_121 : decode b_M_spread 121 = .ok (.iaload, 1) := by decide +kernel
theorem d_M_spread_122 : decode b_M_spread 122 = .ok (.if_icmp .ne (29), 3) := by decide +kernel
theorem d_M_spread_125 : decode b_M_spread 125 = .ok (.aload_n 0, 1) := by decide +kernel
theorem d_M_spread_126 : decode b_M_spread 126 = .ok (.getfield 19, 3) := by decide +kernel
theorem d_M_spread_129 : decode b_M_spread 129 = .ok (.iload_n 3, 1) := by decide +kernel
theorem d_M_spread_130 : decode b_M_spread 130 = .ok (.iaload, 1) := by decide +kernel
theorem d_M_spread_131 : decode b_M_spread 131 = .ok (.aload_n 0, 1) := by decide +kernel
theorem d_M_spread_132 : decode b_M_spread 132 = .ok (.getfield 22, 3) := by decide +kernel
theorem d_M_spread_135 : decode b_M_spread 135 = .ok (.iload_n 3, 1) := by decide +kernel
theorem d_M_spread_136 : decode b_M_spread 136 = .ok (.iaload, 1) := by decide +kernel
theorem d_M_spread_137 : decode b_M_spread 137 = .ok (.if_icmp .ne (10), 3) := by decide +kernel
theorem d_M_spread_140 : decode b_M_spread 140 = .ok (.iload 6, 2) := by decide +kernel
theorem d_M_spread_142 : decode b_M_spread 142 = .ok (.iload 5, 2) := by decide +kernel
theorem d_M_spread_144 : decode b_M_spread 144 = .ok (.if_icmp .lt (7), 3) := by decide +kernel
theorem d_M_spread_147 : decode b_M_spread 147 = .ok (.iconst 1, 1) := by decide +kernel
theorem d_M_spread_148 : decode b_M_spread 148 = .ok (.goto (4), 3) := by decide +kernel
theorem d_M_spread_151 : decode b_M_spread 151 = .ok (.iconst 0, 1) := by decide +kernel
theorem d_M_spread_152 : decode b_M_spread 152 = .ok (.istore 7, 2) := by decide +kernel
theorem d_M_spread_154 : decode b_M_spread 154 = .ok (.iload 7, 2) := by decide +kernel
theorem d_M_spread_156 : decode b_M_spread 156 = .ok (.ifCond .eq (46), 3) := by decide +kernel
theorem d_M_spread_159 : decode b_M_spread 159 = .ok (.aload_n 0, 1) := by decide +kernel
theorem d_M_spread_160 : decode b_M_spread 160 = .ok (.aload_n 0, 1) := by decide +kernel
theorem d_M_spread_161 : decode b_M_spread 161 = .ok (.getfield 25, 3) := by decide +kernel
theorem d_M_spread_164 : decode b_M_spread 164 = .ok (.iload 5, 2) := by decide +kernel
theorem d_M_spread_166 : decode b_M_spread 166 = .ok (.iaload, 1) := by decide +kernel
theorem d_M_spread_167 : decode b_M_spread 167 = .ok (.ldc 171, 2) := by decide +kernel
theorem d_M_spread_169 : decode b_M_spread 169 = .ok (.imul, 1) := by decide +kernel
theorem d_M_spread_170 : decode b_M_spread 170 = .ok (.aload_n 0, 1) := by decide +kernel
theorem d_M_spread_171 : decode b_M_spread 171 = .ok (.getfield 25, 3) := by decide +kernel
theorem d_M_spread_174 : decode b_M_spread 174 = .ok (.iload 6, 2) := by decide +kernel
theorem d_M_spread_176 : decode b_M_spread 176 = .ok (.iaload, 1) := by decide +kernel
theorem d_M_spread_177 : decode b_M_spread 177 = .ok (.ixor, 1) := by decide +kernel
theorem d_M_spread_178 : decode b_M_spread 178 = .ok (.aload_n 0, 1) := by decide +kernel
theorem d_M_spread_179 : decode b_M_spread 179 = .ok (.getfield 28, 3) := by decide +kernel
theorem d_M_spread_182 : decode b_M_spread 182 = .ok (.iload 5, 2) := by decide +kernel
theorem d_M_spread_184 : decode b_M_spread 184 = .ok (.iaload, 1) := by decide +kernel
theorem d_M_spread_185 : decode b_M_spread 185 = .ok (.i2l, 1) := by decide +kernel
theorem d_M_spread_186 : decode b_M_spread 186 = .ok (.aload_n 0, 1) := by decide +kernel
theorem d_M_spread_187 : decode b_M_spread 187 = .ok (.getfield 28, 3) := by decide +kernel
theorem d_M_spread_190 : decode b_M_spread 190 = .ok (.iload 6, 2) := by decide +kernel
theorem d_M_spread_192 : decode b_M_spread 192 = .ok (.iaload, 1) := by decide +kernel
theorem d_M_spread_193 : decode b_M_spread 193 = .ok (.i2l, 1) := by decide +kernel
theorem d_M_spread_194 : decode b_M_spread 194 = .ok (.lmul, 1) := by decide +kernel
theorem d_M_spread_195 : decode b_M_spread 195 = .ok (.ldc2_w 128, 3) := by decide +kernel
theorem d_M_spread_198 : decode b_M_spread 198 = .ok (.ldiv, 1) := by decide +kernel
theorem d_M_spread_199 : decode b_M_spread 199 = .ok (.invokevirtual 167, 3) := by decide +kernel
theorem d_M_spread_202 : decode b_M_spread 202 = .ok (.iinc 4 (1), 3) := by decide +kernel
theorem d_M_spread_205 : decode b_M_spread 205 = .ok (.goto (-144), 3) := by decide +kernel
theorem d_M_spread_208 : decode b_M_spread 208 = .ok (.iinc 3 (1), 3) := by decide +kernel
theorem d_M_spread_211 : decode b_M_spread 211 = .ok (.goto (-161), 3) := by decide +kernel
theorem d_M_spread_214 : decode b_M_spread 214 = .ok (.aload_n 0, 1) := by decide +kernel
theorem d_M_spread_215 : decode b_M_spread 215 = .ok (.ldc 172, 2) := by decide +kernel
theorem d_M_spread_217 : decode b_M_spread 217 = .ok (.ldc2_w 128, 3) := by decide +kernel
theorem d_M_spread_220 : decode b_M_spread 220 = .ok (.invokevirtual 167, 3) := by decide +kernel
theorem d_M_spread_223 : decode b_M_spread 223 = .ok (.return_, 1) := by decide +kernel
set_option maxHeartbeats 4000000 in
set_option maxRecDepth 100000 in
theorem c_M_spread (l : Launch) (D : va_G) (G : Nat → ClassId) (A : Nat → Prop) (Z : va_W) (h : Nat) (n : Nat) (kd : Int32) (ru : Int32) (ya : Nat) (sz : Nat) (ta : Nat) (la : Nat) (rg : Nat) (so : Nat) (bg : Bool) (nc : Nat) (lfa : Nat) (rta : Nat) (lb : Int32) (wo : Int32) (ft : Nat) (fha : Nat) (fva : Nat) (fla : Nat) (sp : Nat) (tc : Nat) (tha : Nat) (tva : Nat) (wa : Nat) (sa : Nat) (ca : Nat) (va : Nat) (tt : Int64) (ld : Int32) (pt : Int64) (pw : Int64) (rc : Nat) (ra : Nat) (wn : Int32) (tx : Nat → Int32) (ln : Nat → Int32) (fh : Nat → Int32) (fv : Nat → Int32) (fl : Nat → Int32) (th : Nat → Int32) (tv : Nat → Int32) (cl : Nat → Int32) (cr : Nat → Int32) (e9 : Nat) (len : Nat) (t : Nat → Int32) (lab9 : Bool) (lb9 : Int32) (im9 : Int32) (L9 : List (Int32 × Int32 × Int32)) (he : e9 < 20) (hln : ln e9 = nI len) (hlen : len ≤ 100) (hag : ∀ q, q < len → tx (100 * e9 + q) = t q) (ht : ∀ q, q < len → hq_ch (t q)) (hpar : hq_par t len = some (lab9, lb9, im9, L9)) (hnc : nc ≤ 3) (hT : (hq_TL L9 cl cr nc).length ≤ 120) : hq_MV l D G A y_M_spread b_M_spread 8 6 0 0 [.ref h, .int (nI e9)] ([hq_o8 h (nI n) kd ru ya (nI sz) ta la (nI rg) (nI so) (hq_z bg) (nI nc) lfa rta lb wo (nI ft) fha fva fla (nI sp) (nI tc) tha tva wa sa ca va tt ld pt pw (nI rc) ra wn, hq_ai la (G 0) 20 ln, hq_ai ta (G 0) 2000 tx, hq_ai fha (G 0) 12 fh, hq_ai fva (G 0) 12 fv, hq_ai fla (G 0) 12 fl, hq_ai lfa (G 0) 3 cl, hq_ai rta (G 0) 3 cr, hq_ai tha (G 0) 120 th, hq_ai tva (G 0) 120 tv] ++ Z) (fun (u : Nat × (Nat → Int32) × (Nat → Int32) × (Nat → Int32)) => hq_rep L9 u.2.1 u.2.2.1 u.2.2.2 L9.length) (fun (u : Nat × (Nat → Int32) × (Nat → Int32) × (Nat → Int32)) => [hq_o8 h (nI n) kd ru ya (nI sz) ta la (nI rg) (nI so) (hq_z bg) (nI nc) lfa rta (if lab9 = true then lb9 else 1000000) im9 (nI L9.length) fha fva fla (nI u.1) (nI ((hq_TL L9 cl cr nc).length)) tha tva wa sa ca va tt ld pt pw (nI rc) ra wn, hq_ai la (G 0) 20 ln, hq_ai ta (G 0) 2000 tx, hq_ai fha (G 0) 12 u.2.1, hq_ai fva (G 0) 12 u.2.2.1, hq_ai fla (G 0) 12 u.2.2.2, hq_ai lfa (G 0) 3 cl, hq_ai rta (G 0) 3 cr, hq_ai tha (G 0) 120 (hq_wr upd th 0 ((hq_TL L9 cl cr nc).map Prod.fst)), hq_ai tva (G 0) 120 (hq_wr upd tv 0 ((hq_TL L9 cl cr nc).map Prod.snd))] ++ Z) := by
  refine hq_bV (by decide) (Nat.le_of_ble_eq_true rfl) ?_
  intro p e s m args below meth c Q hx hb hml hts hown hA hK hN hin hret ls H locs hl hP hD hS
  have hown : s.vm.findClass "HashedLearnerModel" = some m.cls := hown
  have hl : lv_has ls 8 [(0, .ref h), (1, .int (nI e9))] := hl
  refine lv_aload_n hx hb d_M_spread_0 rfl (lv_at hl 0 rfl) ?_
  refine lv_iload_n hx hb d_M_spread_1 rfl (lv_at hl 1 rfl) ?_
  have hPc : va_P D hq_cl ([hq_o8 h (nI n) kd ru ya (nI sz) ta la (nI rg) (nI so) (hq_z bg) (nI nc) lfa rta lb wo (nI ft) fha fva fla (nI sp) (nI tc) tha tva wa sa ca va tt ld pt pw (nI rc) ra wn, hq_ai la (G 0) 20 ln, hq_ai ta (G 0) 2000 tx, hq_ai fha (G 0) 12 fh, hq_ai fva (G 0) 12 fv, hq_ai fla (G 0) 12 fl] ++ ([hq_ai lfa (G 0) 3 cl, hq_ai rta (G 0) 3 cr, hq_ai tha (G 0) 120 th, hq_ai tva (G 0) 120 tv] ++ Z)) H := hP
  have hDc : va_D A ([hq_o8 h (nI n) kd ru ya (nI sz) ta la (nI rg) (nI so) (hq_z bg) (nI nc) lfa rta lb wo (nI ft) fha fva fla (nI sp) (nI tc) tha tva wa sa ca va tt ld pt pw (nI rc) ra wn, hq_ai la (G 0) 20 ln, hq_ai ta (G 0) 2000 tx, hq_ai fha (G 0) 12 fh, hq_ai fva (G 0) 12 fv, hq_ai fla (G 0) 12 fl] ++ ([hq_ai lfa (G 0) 3 cl, hq_ai rta (G 0) 3 cr, hq_ai tha (G 0) 120 th, hq_ai tva (G 0) 120 tv] ++ Z)) := hD
  refine hq_i (hq_rV (As := [.int (nI e9)]) (rest := []) hx hb hml hown hts (c_M_parse l D G A ([hq_ai lfa (G 0) 3 cl, hq_ai rta (G 0) 3 cr, hq_ai tha (G 0) 120 th, hq_ai tva (G 0) 120 tv] ++ Z) h n kd ru ya sz ta la rg so bg nc lfa rta lb wo ft fha fva fla sp tc tha tva wa sa ca va tt ld pt pw rc ra wn tx ln fh fv fl e9 len t (by first | assumption | omega) (by first | assumption | omega) (by first | assumption | omega) (by first | assumption | omega) (by first | assumption | omega)) yy_M_parse lk_M_164 hA hK hN hS hPc hDc 0 8 rfl rfl rfl hl.1 rfl (Nat.le_of_ble_eq_true rfl) d_M_spread_2 ⟨by decide, by decide⟩ ⟨by decide, by decide⟩) hS (fun r2 u2 H locs w2 hP hD hS => ?_)
  have hP : va_P D hq_cl ([hq_o8 h (nI n) kd ru ya (nI sz) ta la (nI rg) (nI so) (hq_z bg) (nI nc) lfa rta u2.1.1 u2.1.2.1 (nI u2.2.2.2.2) fha fva fla (nI u2.1.2.2) (nI tc) tha tva wa sa ca va tt ld pt pw (nI rc) ra wn, hq_ai la (G 0) 20 ln, hq_ai ta (G 0) 2000 tx, hq_ai fha (G 0) 12 u2.2.1, hq_ai fva (G 0) 12 u2.2.2.1, hq_ai fla (G 0) 12 u2.2.2.2.1, hq_ai lfa (G 0) 3 cl, hq_ai rta (G 0) 3 cr, hq_ai tha (G 0) 120 th, hq_ai tva (G 0) 120 tv] ++ Z) H := hP
  have hD : va_D A ([hq_o8 h (nI n) kd ru ya (nI sz) ta la (nI rg) (nI so) (hq_z bg) (nI nc) lfa rta u2.1.1 u2.1.2.1 (nI u2.2.2.2.2) fha fva fla (nI u2.1.2.2) (nI tc) tha tva wa sa ca va tt ld pt pw (nI rc) ra wn, hq_ai la (G 0) 20 ln, hq_ai ta (G 0) 2000 tx, hq_ai fha (G 0) 12 u2.2.1, hq_ai fva (G 0) 12 u2.2.2.1, hq_ai fla (G 0) 12 u2.2.2.2.1, hq_ai lfa (G 0) 3 cl, hq_ai rta (G 0) 3 cr, hq_ai tha (G 0) 120 th, hq_ai tva (G 0) 120 tv] ++ Z) := hD
  obtain ⟨⟨lb2, wo2, sp2⟩, fh2, fv2, fl2, k2⟩ := u2
  obtain ⟨w2, hk2, hR2⟩ := w2
  have hk2 : k2 ≤ 12 := hk2
  obtain ⟨e1, e2, hr2⟩ := hR2 _ hpar
  rw [hpar] at w2
  have w2 : r2 = 1 := w2
  subst w2
  have e1 : lb2 = (if lab9 = true then lb9 else 1000000) := e1
  have e2 : wo2 = im9 := e2
  rw [e1, e2] at hP hD
  have hr2 : hq_rep L9 fh2 fv2 fl2 k2 := hr2
  have hk3 : L9.length = k2 := hr2.1
  subst hk3
  have hb9 : ∀ f, f < L9.length → -99999 ≤ (fv2 f).toInt ∧ (fv2 f).toInt ≤ 99999 := fun f hf => hq_rep_in hr2 (hq_par_ok hpar) hf
  have hz0 := congrArg List.length ((hq_tms_rep (cl := cl) (cr := cr) (nc := nc) hr2).symm.trans (hq_tms_eq fh2 fv2 fl2 L9.length cl cr nc))
  rw [List.length_append, List.length_append, List.length_singleton] at hz0
  have hnn : L9.length * L9.length ≤ 144 := Nat.mul_le_mul hk2 hk2
  have hP : va_P D hq_cl ([hq_o8 h (nI n) kd ru ya (nI sz) ta la (nI rg) (nI so) (hq_z bg) (nI nc) lfa rta (if lab9 = true then lb9 else 1000000) im9 (nI L9.length) fha fva fla (nI sp2) (nI tc) tha tva wa sa ca va tt ld pt pw (nI rc) ra wn, hq_ai la (G 0) 20 ln, hq_ai ta (G 0) 2000 tx, hq_ai fha (G 0) 12 fh2, hq_ai fva (G 0) 12 fv2, hq_ai fla (G 0) 12 fl2, hq_ai lfa (G 0) 3 cl, hq_ai rta (G 0) 3 cr, hq_ai tha (G 0) 120 th, hq_ai tva (G 0) 120 tv] ++ Z) H := hP
  have hD : va_D A ([hq_o8 h (nI n) kd ru ya (nI sz) ta la (nI rg) (nI so) (hq_z bg) (nI nc) lfa rta (if lab9 = true then lb9 else 1000000) im9 (nI L9.length) fha fva fla (nI sp2) (nI tc) tha tva wa sa ca va tt ld pt pw (nI rc) ra wn, hq_ai la (G 0) 20 ln, hq_ai ta (G 0) 2000 tx, hq_ai fha (G 0) 12 fh2, hq_ai fva (G 0) 12 fv2, hq_ai fla (G 0) 12 fl2, hq_ai lfa (G 0) 3 cl, hq_ai rta (G 0) 3 cr, hq_ai tha (G 0) 120 th, hq_ai tva (G 0) 120 tv] ++ Z) := hD
  refine lv_istore_n (nL := 8) (lv' := [(2, .int 1), (0, .ref h), (1, .int (nI e9))]) hx hb d_M_spread_5 rfl hl (by decide) rfl (fun ls hl => ?_)
  refine lv_aload_n hx hb d_M_spread_6 rfl (lv_at hl 1 rfl) ?_
  refine lv_iconst (v := nI 0) hx hb d_M_spread_7 (by decide) ?_
  refine va_put (D := D) (ci := 8) (v := .int (nI 0)) (ty := .int) (C := R_M) (T := F_M) (N := 34) hx hb hts uw_M t_M t_M_ok n_M hown hK hP hD hS 0 rfl rfl 20 (by decide) (hts _ fl_M_161) (fun _ h9 => h9) rfl (by decide +kernel) (rfl) (rfl) (Nat.le_of_ble_eq_true rfl) d_M_spread_8 (fun H locs hP hD hS => ?_)
  have hP : va_P D hq_cl ([hq_o8 h (nI n) kd ru ya (nI sz) ta la (nI rg) (nI so) (hq_z bg) (nI nc) lfa rta (if lab9 = true then lb9 else 1000000) im9 (nI L9.length) fha fva fla (nI sp2) (nI 0) tha tva wa sa ca va tt ld pt pw (nI rc) ra wn, hq_ai la (G 0) 20 ln, hq_ai ta (G 0) 2000 tx, hq_ai fha (G 0) 12 fh2, hq_ai fva (G 0) 12 fv2, hq_ai fla (G 0) 12 fl2, hq_ai lfa (G 0) 3 cl, hq_ai rta (G 0) 3 cr, hq_ai tha (G 0) 120 th, hq_ai tva (G 0) 120 tv] ++ Z) H := hP
  have hD : va_D A ([hq_o8 h (nI n) kd ru ya (nI sz) ta la (nI rg) (nI so) (hq_z bg) (nI nc) lfa rta (if lab9 = true then lb9 else 1000000) im9 (nI L9.length) fha fva fla (nI sp2) (nI 0) tha tva wa sa ca va tt ld pt pw (nI rc) ra wn, hq_ai la (G 0) 20 ln, hq_ai ta (G 0) 2000 tx, hq_ai fha (G 0) 12 fh2, hq_ai fva (G 0) 12 fv2, hq_ai fla (G 0) 12 fl2, hq_ai lfa (G 0) 3 cl, hq_ai rta (G 0) 3 cr, hq_ai tha (G 0) 120 th, hq_ai tva (G 0) 120 tv] ++ Z) := hD
  refine lv_iconst (v := nI 0) hx hb d_M_spread_11 (by decide) ?_
  refine lv_istore_n (nL := 8) (lv' := [(3, .int (nI 0)), (2, .int 1), (0, .ref h), (1, .int (nI e9))]) hx hb d_M_spread_12 rfl hl (by decide) rfl (fun ls hl => ?_)
  have cut13 : ∀ (kz : Nat) (f : Nat) (Wl : List (Int32 × Int32)) (ls : Array Slot) (H : Heap) (locs : List Loc), L9.length - f = kz → (f ≤ L9.length) → (hq_fs fh2 fv2 0 L9.length = Wl ++ hq_fs fh2 fv2 f (L9.length - f)) → lv_has ls 8 [(0, .ref h), (2, .int 1), (3, .int (nI f))] → va_P D hq_cl ([hq_o8 h (nI n) kd ru ya (nI sz) ta la (nI rg) (nI so) (hq_z bg) (nI nc) lfa rta (if lab9 = true then lb9 else 1000000) im9 (nI L9.length) fha fva fla (nI sp2) (nI (Wl.length)) tha tva wa sa ca va tt ld pt pw (nI rc) ra wn, hq_ai la (G 0) 20 ln, hq_ai ta (G 0) 2000 tx, hq_ai fha (G 0) 12 fh2, hq_ai fva (G 0) 12 fv2, hq_ai fla (G 0) 12 fl2, hq_ai lfa (G 0) 3 cl, hq_ai rta (G 0) 3 cr, hq_ai tha (G 0) 120 (hq_wr upd th 0 (Wl.map Prod.fst)), hq_ai tva (G 0) 120 (hq_wr upd tv 0 (Wl.map Prod.snd))] ++ Z) H → va_D A ([hq_o8 h (nI n) kd ru ya (nI sz) ta la (nI rg) (nI so) (hq_z bg) (nI nc) lfa rta (if lab9 = true then lb9 else 1000000) im9 (nI L9.length) fha fva fla (nI sp2) (nI (Wl.length)) tha tva wa sa ca va tt ld pt pw (nI rc) ra wn, hq_ai la (G 0) 20 ln, hq_ai ta (G 0) 2000 tx, hq_ai fha (G 0) 12 fh2, hq_ai fva (G 0) 12 fv2, hq_ai fla (G 0) 12 fl2, hq_ai lfa (G 0) 3 cl, hq_ai rta (G 0) 3 cr, hq_ai tha (G 0) 120 (hq_wr upd th 0 (Wl.map Prod.fst)), hq_ai tva (G 0) 120 (hq_wr upd tv 0 (Wl.map Prod.snd))] ++ Z) → va_S A s.heap H locs → W p l e (hq_rm 6 0 0) s m args below meth c H locs 0 0 Q (F0 m 13 ls []) := by
    intro kz
    induction kz using Nat.strongRecOn with
    | ind kz ih =>
      intro f Wl ls H locs hkz hfk hF hl hP hD hS
      subst hkz
      refine lv_iload_n hx hb d_M_spread_13 rfl (lv_at hl 2 rfl) ?_
      refine lv_aload_n hx hb d_M_spread_14 rfl (lv_at hl 0 rfl) ?_
      refine va_get (D := D) (ci := 8) (v := .int (nI L9.length)) (C := R_M) (T := F_M) (N := 34) hx hb hts uw_M hown hK hP 0 rfl rfl 15 (by decide) (hts _ fl_M_119) (fun _ h9 => h9) rfl d_M_spread_15 ?_
      refine lv_icmp_ge (tgt := 48) hx hb d_M_spread_18 rfl (fun c18 => ?_) (fun c18 => ?_)
      · -- 18 taken
        have c18 : L9.length ≤ f := (nI_leI (a := L9.length) (b := f) (by omega) (by omega)).mp c18
        refine lv_iconst (v := nI 0) hx hb d_M_spread_48 (by decide) ?_
        refine lv_istore_n (nL := 8) (lv' := [(3, .int (nI 0)), (0, .ref h), (2, .int 1)]) hx hb d_M_spread_49 rfl hl (by decide) rfl (fun ls hl => ?_)
        have cut50 : ∀ (kz : Nat) (c0 : Nat) (Wl : List (Int32 × Int32)) (ls : Array Slot) (H : Heap) (locs : List Loc), nc - c0 = kz → (c0 ≤ nc) → (hq_fs fh2 fv2 0 L9.length ++ hq_crs fh2 fv2 fl2 L9.length cl cr 0 nc = Wl ++ hq_crs fh2 fv2 fl2 L9.length cl cr c0 (nc - c0)) → lv_has ls 8 [(0, .ref h), (3, .int (nI c0))] → va_P D hq_cl ([hq_o8 h (nI n) kd ru ya (nI sz) ta la (nI rg) (nI so) (hq_z bg) (nI nc) lfa rta (if lab9 = true then lb9 else 1000000) im9 (nI L9.length) fha fva fla (nI sp2) (nI (Wl.length)) tha tva wa sa ca va tt ld pt pw (nI rc) ra wn, hq_ai la (G 0) 20 ln, hq_ai ta (G 0) 2000 tx, hq_ai fha (G 0) 12 fh2, hq_ai fva (G 0) 12 fv2, hq_ai fla (G 0) 12 fl2, hq_ai lfa (G 0) 3 cl, hq_ai rta (G 0) 3 cr, hq_ai tha (G 0) 120 (hq_wr upd th 0 (Wl.map Prod.fst)), hq_ai tva (G 0) 120 (hq_wr upd tv 0 (Wl.map Prod.snd))] ++ Z) H → va_D A ([hq_o8 h (nI n) kd ru ya (nI sz) ta la (nI rg) (nI so) (hq_z bg) (nI nc) lfa rta (if lab9 = true then lb9 else 1000000) im9 (nI L9.length) fha fva fla (nI sp2) (nI (Wl.length)) tha tva wa sa ca va tt ld pt pw (nI rc) ra wn, hq_ai la (G 0) 20 ln, hq_ai ta (G 0) 2000 tx, hq_ai fha (G 0) 12 fh2, hq_ai fva (G 0) 12 fv2, hq_ai fla (G 0) 12 fl2, hq_ai lfa (G 0) 3 cl, hq_ai rta (G 0) 3 cr, hq_ai tha (G 0) 120 (hq_wr upd th 0 (Wl.map Prod.fst)), hq_ai tva (G 0) 120 (hq_wr upd tv 0 (Wl.map Prod.snd))] ++ Z) → va_S A s.heap H locs → W p l e (hq_rm 6 0 0) s m args below meth c H locs 0 0 Q (F0 m 50 ls []) := by
          intro kz
          induction kz using Nat.strongRecOn with
          | ind kz ih50 =>
            intro c0 Wl ls H locs hkz hck hF hl hP hD hS
            subst hkz
            refine lv_iload_n hx hb d_M_spread_50 rfl (lv_at hl 1 rfl) ?_
            refine lv_aload_n hx hb d_M_spread_51 rfl (lv_at hl 0 rfl) ?_
            refine va_get (D := D) (ci := 8) (v := .int (nI nc)) (C := R_M) (T := F_M) (N := 34) hx hb hts uw_M hown hK hP 0 rfl rfl 10 (by decide) (hts _ fl_M_74) (fun _ h9 => h9) rfl d_M_spread_52 ?_
            refine lv_icmp_ge (tgt := 214) hx hb d_M_spread_55 rfl (fun c55 => ?_) (fun c55 => ?_)
            · -- 55 taken
              have c55 : nc ≤ c0 := (nI_leI (a := nc) (b := c0) (by omega) (by omega)).mp c55
              rw [hq_crs_end (g := c0) (j := nc) (by omega), List.append_nil] at hF
              have hz := congrArg List.length hF
              rw [List.length_append] at hz
              refine lv_aload_n hx hb d_M_spread_214 rfl (lv_at hl 0 rfl) ?_
              refine lv_ldc (v := 11650396) hx hb hown (hts _ ki_M_172) d_M_spread_215 ?_
              refine lv_ldc2 (v := 100) hx hb hown (hts _ kl_M_128) d_M_spread_217 ?_
              have hPc : va_P D hq_cl ([hq_o8 h (nI n) kd ru ya (nI sz) ta la (nI rg) (nI so) (hq_z bg) (nI nc) lfa rta (if lab9 = true then lb9 else 1000000) im9 (nI L9.length) fha fva fla (nI sp2) (nI (Wl.length)) tha tva wa sa ca va tt ld pt pw (nI rc) ra wn, hq_ai tha (G 0) 120 (hq_wr upd th 0 (Wl.map Prod.fst)), hq_ai tva (G 0) 120 (hq_wr upd tv 0 (Wl.map Prod.snd))] ++ ([hq_ai la (G 0) 20 ln, hq_ai ta (G 0) 2000 tx, hq_ai fha (G 0) 12 fh2, hq_ai fva (G 0) 12 fv2, hq_ai fla (G 0) 12 fl2, hq_ai lfa (G 0) 3 cl, hq_ai rta (G 0) 3 cr] ++ Z)) H := va_P.part (cx := [hq_o8 h (nI n) kd ru ya (nI sz) ta la (nI rg) (nI so) (hq_z bg) (nI nc) lfa rta (if lab9 = true then lb9 else 1000000) im9 (nI L9.length) fha fva fla (nI sp2) (nI (Wl.length)) tha tva wa sa ca va tt ld pt pw (nI rc) ra wn, hq_ai tha (G 0) 120 (hq_wr upd th 0 (Wl.map Prod.fst)), hq_ai tva (G 0) 120 (hq_wr upd tv 0 (Wl.map Prod.snd)), hq_ai la (G 0) 20 ln, hq_ai ta (G 0) 2000 tx, hq_ai fha (G 0) 12 fh2, hq_ai fva (G 0) 12 fv2, hq_ai fla (G 0) 12 fl2, hq_ai lfa (G 0) 3 cl, hq_ai rta (G 0) 3 cr]) hP [0, 8, 9, 1, 2, 3, 4, 5, 6, 7] rfl
              have hDc : va_D A ([hq_o8 h (nI n) kd ru ya (nI sz) ta la (nI rg) (nI so) (hq_z bg) (nI nc) lfa rta (if lab9 = true then lb9 else 1000000) im9 (nI L9.length) fha fva fla (nI sp2) (nI (Wl.length)) tha tva wa sa ca va tt ld pt pw (nI rc) ra wn, hq_ai tha (G 0) 120 (hq_wr upd th 0 (Wl.map Prod.fst)), hq_ai tva (G 0) 120 (hq_wr upd tv 0 (Wl.map Prod.snd))] ++ ([hq_ai la (G 0) 20 ln, hq_ai ta (G 0) 2000 tx, hq_ai fha (G 0) 12 fh2, hq_ai fva (G 0) 12 fv2, hq_ai fla (G 0) 12 fl2, hq_ai lfa (G 0) 3 cl, hq_ai rta (G 0) 3 cr] ++ Z)) := va_D.part (cx := [hq_o8 h (nI n) kd ru ya (nI sz) ta la (nI rg) (nI so) (hq_z bg) (nI nc) lfa rta (if lab9 = true then lb9 else 1000000) im9 (nI L9.length) fha fva fla (nI sp2) (nI (Wl.length)) tha tva wa sa ca va tt ld pt pw (nI rc) ra wn, hq_ai tha (G 0) 120 (hq_wr upd th 0 (Wl.map Prod.fst)), hq_ai tva (G 0) 120 (hq_wr upd tv 0 (Wl.map Prod.snd)), hq_ai la (G 0) 20 ln, hq_ai ta (G 0) 2000 tx, hq_ai fha (G 0) 12 fh2, hq_ai fva (G 0) 12 fv2, hq_ai fla (G 0) 12 fl2, hq_ai lfa (G 0) 3 cl, hq_ai rta (G 0) 3 cr]) hD [0, 8, 9, 1, 2, 3, 4, 5, 6, 7] (by decide) rfl
              refine hq_vF (hq_rV (As := [.int 11650396, .long 100]) (rest := []) hx hb hml hown hts (c_M_term l D G A ([hq_ai la (G 0) 20 ln, hq_ai ta (G 0) 2000 tx, hq_ai fha (G 0) 12 fh2, hq_ai fva (G 0) 12 fv2, hq_ai fla (G 0) 12 fl2, hq_ai lfa (G 0) 3 cl, hq_ai rta (G 0) 3 cr] ++ Z) h n kd ru ya sz ta la rg so bg nc lfa rta (if lab9 = true then lb9 else 1000000) im9 L9.length fha fva fla sp2 Wl.length tha tva wa sa ca va tt ld pt pw rc ra wn (hq_wr upd th 0 (Wl.map Prod.fst)) (hq_wr upd tv 0 (Wl.map Prod.snd)) 11650396 100 (by first | assumption | omega)) yy_M_term lk_M_167 hA hK hN hS hPc hDc 0 8 rfl rfl rfl hl.1 rfl (Nat.le_of_ble_eq_true rfl) d_M_spread_220 ⟨by decide, by decide⟩ ⟨by decide, by decide⟩) hS (fun H locs hP hD hS => ?_)
              have hP : va_P D hq_cl ([hq_o8 h (nI n) kd ru ya (nI sz) ta la (nI rg) (nI so) (hq_z bg) (nI nc) lfa rta (if lab9 = true then lb9 else 1000000) im9 (nI L9.length) fha fva fla (nI sp2) (nI (Wl.length + 1)) tha tva wa sa ca va tt ld pt pw (nI rc) ra wn, hq_ai tha (G 0) 120 (upd (hq_wr upd th 0 (Wl.map Prod.fst)) Wl.length 11650396), hq_ai tva (G 0) 120 (upd (hq_wr upd tv 0 (Wl.map Prod.snd)) Wl.length (Int64.toInt32 (f_M_clip 100 99999))), hq_ai la (G 0) 20 ln, hq_ai ta (G 0) 2000 tx, hq_ai fha (G 0) 12 fh2, hq_ai fva (G 0) 12 fv2, hq_ai fla (G 0) 12 fl2, hq_ai lfa (G 0) 3 cl, hq_ai rta (G 0) 3 cr] ++ Z) H := hP
              have hD : va_D A ([hq_o8 h (nI n) kd ru ya (nI sz) ta la (nI rg) (nI so) (hq_z bg) (nI nc) lfa rta (if lab9 = true then lb9 else 1000000) im9 (nI L9.length) fha fva fla (nI sp2) (nI (Wl.length + 1)) tha tva wa sa ca va tt ld pt pw (nI rc) ra wn, hq_ai tha (G 0) 120 (upd (hq_wr upd th 0 (Wl.map Prod.fst)) Wl.length 11650396), hq_ai tva (G 0) 120 (upd (hq_wr upd tv 0 (Wl.map Prod.snd)) Wl.length (Int64.toInt32 (f_M_clip 100 99999))), hq_ai la (G 0) 20 ln, hq_ai ta (G 0) 2000 tx, hq_ai fha (G 0) 12 fh2, hq_ai fva (G 0) 12 fv2, hq_ai fla (G 0) 12 fl2, hq_ai lfa (G 0) 3 cl, hq_ai rta (G 0) 3 cr] ++ Z) := hD
              have hP := va_P.part (cx := [hq_o8 h (nI n) kd ru ya (nI sz) ta la (nI rg) (nI so) (hq_z bg) (nI nc) lfa rta (if lab9 = true then lb9 else 1000000) im9 (nI L9.length) fha fva fla (nI sp2) (nI (Wl.length + 1)) tha tva wa sa ca va tt ld pt pw (nI rc) ra wn, hq_ai la (G 0) 20 ln, hq_ai ta (G 0) 2000 tx, hq_ai fha (G 0) 12 fh2, hq_ai fva (G 0) 12 fv2, hq_ai fla (G 0) 12 fl2, hq_ai lfa (G 0) 3 cl, hq_ai rta (G 0) 3 cr, hq_ai tha (G 0) 120 (upd (hq_wr upd th 0 (Wl.map Prod.fst)) Wl.length 11650396), hq_ai tva (G 0) 120 (upd (hq_wr upd tv 0 (Wl.map Prod.snd)) Wl.length (Int64.toInt32 (f_M_clip 100 99999)))]) hP [0, 3, 4, 5, 6, 7, 8, 9, 1, 2] rfl
              have hD := va_D.part (cx := [hq_o8 h (nI n) kd ru ya (nI sz) ta la (nI rg) (nI so) (hq_z bg) (nI nc) lfa rta (if lab9 = true then lb9 else 1000000) im9 (nI L9.length) fha fva fla (nI sp2) (nI (Wl.length + 1)) tha tva wa sa ca va tt ld pt pw (nI rc) ra wn, hq_ai la (G 0) 20 ln, hq_ai ta (G 0) 2000 tx, hq_ai fha (G 0) 12 fh2, hq_ai fva (G 0) 12 fv2, hq_ai fla (G 0) 12 fl2, hq_ai lfa (G 0) 3 cl, hq_ai rta (G 0) 3 cr, hq_ai tha (G 0) 120 (upd (hq_wr upd th 0 (Wl.map Prod.fst)) Wl.length 11650396), hq_ai tva (G 0) 120 (upd (hq_wr upd tv 0 (Wl.map Prod.snd)) Wl.length (Int64.toInt32 (f_M_clip 100 99999)))]) hD [0, 3, 4, 5, 6, 7, 8, 9, 1, 2] (by decide) rfl
              have e9_0 : (nI ((hq_TL L9 cl cr nc).length)) = (nI (Wl.length + 1)) := by rw [← hq_tms_rep (cl := cl) (cr := cr) (nc := nc) hr2, hq_tms_eq, hF]; first | exact hq_wrF0 (y := (11650396, 100)) | exact hq_wrN0 | (rw [show Int64.toInt32 (f_M_clip 100 99999) = 100 by decide]; exact hq_wrF0 (y := (11650396, 100)))
              have e9_1 : (hq_wr upd th 0 ((hq_TL L9 cl cr nc).map Prod.fst)) = (upd (hq_wr upd th 0 (Wl.map Prod.fst)) Wl.length 11650396) := by rw [← hq_tms_rep (cl := cl) (cr := cr) (nc := nc) hr2, hq_tms_eq, hF]; first | exact hq_wrF0 (y := (11650396, 100)) | exact hq_wrN0 | (rw [show Int64.toInt32 (f_M_clip 100 99999) = 100 by decide]; exact hq_wrF0 (y := (11650396, 100)))
              have e9_2 : (hq_wr upd tv 0 ((hq_TL L9 cl cr nc).map Prod.snd)) = (upd (hq_wr upd tv 0 (Wl.map Prod.snd)) Wl.length (Int64.toInt32 (f_M_clip 100 99999))) := by rw [← hq_tms_rep (cl := cl) (cr := cr) (nc := nc) hr2, hq_tms_eq, hF]; first | exact hq_wrF0 (y := (11650396, 100)) | exact hq_wrN0 | (rw [show Int64.toInt32 (f_M_clip 100 99999) = 100 by decide]; exact hq_wrF0 (y := (11650396, 100)))
              have hP : va_P D hq_cl ([hq_o8 h (nI n) kd ru ya (nI sz) ta la (nI rg) (nI so) (hq_z bg) (nI nc) lfa rta (if lab9 = true then lb9 else 1000000) im9 (nI L9.length) fha fva fla (nI sp2) (nI ((hq_TL L9 cl cr nc).length)) tha tva wa sa ca va tt ld pt pw (nI rc) ra wn, hq_ai la (G 0) 20 ln, hq_ai ta (G 0) 2000 tx, hq_ai fha (G 0) 12 fh2, hq_ai fva (G 0) 12 fv2, hq_ai fla (G 0) 12 fl2, hq_ai lfa (G 0) 3 cl, hq_ai rta (G 0) 3 cr, hq_ai tha (G 0) 120 (hq_wr upd th 0 ((hq_TL L9 cl cr nc).map Prod.fst)), hq_ai tva (G 0) 120 (hq_wr upd tv 0 ((hq_TL L9 cl cr nc).map Prod.snd))] ++ Z) H := by rw [e9_0, e9_1, e9_2]; exact hP
              have hD : va_D A ([hq_o8 h (nI n) kd ru ya (nI sz) ta la (nI rg) (nI so) (hq_z bg) (nI nc) lfa rta (if lab9 = true then lb9 else 1000000) im9 (nI L9.length) fha fva fla (nI sp2) (nI ((hq_TL L9 cl cr nc).length)) tha tva wa sa ca va tt ld pt pw (nI rc) ra wn, hq_ai la (G 0) 20 ln, hq_ai ta (G 0) 2000 tx, hq_ai fha (G 0) 12 fh2, hq_ai fva (G 0) 12 fv2, hq_ai fla (G 0) 12 fl2, hq_ai lfa (G 0) 3 cl, hq_ai rta (G 0) 3 cr, hq_ai tha (G 0) 120 (hq_wr upd th 0 ((hq_TL L9 cl cr nc).map Prod.fst)), hq_ai tva (G 0) 120 (hq_wr upd tv 0 ((hq_TL L9 cl cr nc).map Prod.snd))] ++ Z) := by rw [e9_0, e9_1, e9_2]; exact hD
              exact hret (sp2, fh2, fv2, fl2) H locs 223 ls d_M_spread_223 (hr2) hP hD hS
            · -- 55 not taken
              have c55 : ¬ nc ≤ c0 := fun h => c55 ((nI_leI (a := nc) (b := c0) (by omega) (by omega)).mpr h)
              refine lv_iconst (v := nI 0) hx hb d_M_spread_58 (by decide) ?_
              refine lv_istore (nL := 8) (lv' := [(4, .int (nI 0)), (0, .ref h), (3, .int (nI c0))]) hx hb d_M_spread_59 hl (by decide) rfl (fun ls hl => ?_)
              have cut61 : ∀ (kz : Nat) (q : Nat) (Wm : List (Int32 × Int32)) (ls : Array Slot) (H : Heap) (locs : List Loc), L9.length * L9.length - q = kz → (q ≤ L9.length * L9.length) → (Wl ++ hq_cr fh2 fv2 fl2 L9.length (cl c0) (cr c0) 0 L9.length = Wm ++ hq_crM fh2 fv2 fl2 L9.length (cl c0) (cr c0) q (L9.length * L9.length - q)) → lv_has ls 8 [(0, .ref h), (3, .int (nI c0)), (4, .int (nI q))] → va_P D hq_cl ([hq_o8 h (nI n) kd ru ya (nI sz) ta la (nI rg) (nI so) (hq_z bg) (nI nc) lfa rta (if lab9 = true then lb9 else 1000000) im9 (nI L9.length) fha fva fla (nI sp2) (nI (Wm.length)) tha tva wa sa ca va tt ld pt pw (nI rc) ra wn, hq_ai la (G 0) 20 ln, hq_ai ta (G 0) 2000 tx, hq_ai fha (G 0) 12 fh2, hq_ai fva (G 0) 12 fv2, hq_ai fla (G 0) 12 fl2, hq_ai lfa (G 0) 3 cl, hq_ai rta (G 0) 3 cr, hq_ai tha (G 0) 120 (hq_wr upd th 0 (Wm.map Prod.fst)), hq_ai tva (G 0) 120 (hq_wr upd tv 0 (Wm.map Prod.snd))] ++ Z) H → va_D A ([hq_o8 h (nI n) kd ru ya (nI sz) ta la (nI rg) (nI so) (hq_z bg) (nI nc) lfa rta (if lab9 = true then lb9 else 1000000) im9 (nI L9.length) fha fva fla (nI sp2) (nI (Wm.length)) tha tva wa sa ca va tt ld pt pw (nI rc) ra wn, hq_ai la (G 0) 20 ln, hq_ai ta (G 0) 2000 tx, hq_ai fha (G 0) 12 fh2, hq_ai fva (G 0) 12 fv2, hq_ai fla (G 0) 12 fl2, hq_ai lfa (G 0) 3 cl, hq_ai rta (G 0) 3 cr, hq_ai tha (G 0) 120 (hq_wr upd th 0 (Wm.map Prod.fst)), hq_ai tva (G 0) 120 (hq_wr upd tv 0 (Wm.map Prod.snd))] ++ Z) → va_S A s.heap H locs → W p l e (hq_rm 6 0 0) s m args below meth c H locs 0 0 Q (F0 m 61 ls []) := by
                intro kz
                induction kz using Nat.strongRecOn with
                | ind kz ih61 =>
                  intro q Wm ls H locs hkz hqk hG hl hP hD hS
                  subst hkz
                  refine lv_iload hx hb d_M_spread_61 (lv_at hl 2 rfl) ?_
                  refine lv_aload_n hx hb d_M_spread_63 rfl (lv_at hl 0 rfl) ?_
                  refine va_get (D := D) (ci := 8) (v := .int (nI L9.length)) (C := R_M) (T := F_M) (N := 34) hx hb hts uw_M hown hK hP 0 rfl rfl 15 (by decide) (hts _ fl_M_119) (fun _ h9 => h9) rfl d_M_spread_64 ?_
                  refine lv_aload_n hx hb d_M_spread_67 rfl (lv_at hl 0 rfl) ?_
                  refine va_get (D := D) (ci := 8) (v := .int (nI L9.length)) (C := R_M) (T := F_M) (N := 34) hx hb hts uw_M hown hK hP 0 rfl rfl 15 (by decide) (hts _ fl_M_119) (fun _ h9 => h9) rfl d_M_spread_68 ?_
                  refine lv_imul hx hb d_M_spread_71 ?_
                  refine hq_topi (x' := nI (L9.length * L9.length)) (pk_mul L9.length L9.length) ?_
                  refine lv_icmp_ge (tgt := 208) hx hb d_M_spread_72 rfl (fun c72 => ?_) (fun c72 => ?_)
                  · -- 72 taken
                    have c72 : (L9.length * L9.length) ≤ q := (nI_leI (a := L9.length * L9.length) (b := q) (by omega) (by omega)).mp c72
                    refine lv_iinc (nL := 8) (k := 1) (v := nI (c0 + 1)) (lv' := [(3, .int (nI (c0 + 1))), (0, .ref h), (4, .int (nI q))]) hx hb d_M_spread_208 hl rfl (nI_add c0 1) (by decide) rfl (fun ls hl => ?_)
                    refine lv_goto (tgt := 50) hx hb d_M_spread_211 rfl ?_
                    exact ih50 _ (by omega) (c0 + 1) Wm ls H locs rfl (by first | assumption | omega) (by rw [hF, hq_crs_go (g := c0) (j := nc) (by omega), ← List.append_assoc, hG, hq_crM_end (q := q) (j := L9.length * L9.length) (by omega), List.append_nil]) (lv_sub hl [1, 0] rfl) hP hD hS
                  · -- 72 not taken
                    have c72 : ¬ (L9.length * L9.length) ≤ q := fun h => c72 ((nI_leI (a := L9.length * L9.length) (b := q) (by omega) (by omega)).mpr h)
                    have hn0 : 0 < L9.length := Nat.pos_of_ne_zero (fun h => by rw [h] at c72; omega)
                    have hf9 : q / L9.length < L9.length := Nat.div_lt_of_lt_mul (by omega)
                    have hg9 : q % L9.length < L9.length := Nat.mod_lt _ hn0
                    refine lv_iload hx hb d_M_spread_75 (lv_at hl 2 rfl) ?_
                    refine lv_aload_n hx hb d_M_spread_77 rfl (lv_at hl 0 rfl) ?_
                    refine va_get (D := D) (ci := 8) (v := .int (nI L9.length)) (C := R_M) (T := F_M) (N := 34) hx hb hts uw_M hown hK hP 0 rfl rfl 15 (by decide) (hts _ fl_M_119) (fun _ h9 => h9) rfl d_M_spread_78 ?_
                    refine lv_idiv hx hb d_M_spread_81 (nI_ne0 hn0 (by omega)) ?_
                    refine hq_topi (x' := nI (q / L9.length)) (pk_div (by omega) hn0 (by omega)) ?_
                    refine lv_istore (nL := 8) (lv' := [(5, .int (nI (q / L9.length))), (0, .ref h), (3, .int (nI c0)), (4, .int (nI q))]) hx hb d_M_spread_82 hl (by decide) rfl (fun ls hl => ?_)
                    refine lv_iload hx hb d_M_spread_84 (lv_at hl 3 rfl) ?_
                    refine lv_aload_n hx hb d_M_spread_86 rfl (lv_at hl 1 rfl) ?_
                    refine va_get (D := D) (ci := 8) (v := .int (nI L9.length)) (C := R_M) (T := F_M) (N := 34) hx hb hts uw_M hown hK hP 0 rfl rfl 15 (by decide) (hts _ fl_M_119) (fun _ h9 => h9) rfl d_M_spread_87 ?_
                    refine lv_irem hx hb d_M_spread_90 (nI_ne0 hn0 (by omega)) ?_
                    refine hq_topi (x' := nI (q % L9.length)) (pk_rem (by omega) hn0 (by omega)) ?_
                    refine lv_istore (nL := 8) (lv' := [(6, .int (nI (q % L9.length))), (5, .int (nI (q / L9.length))), (0, .ref h), (3, .int (nI c0)), (4, .int (nI q))]) hx hb d_M_spread_91 hl (by decide) rfl (fun ls hl => ?_)
                    refine lv_aload_n hx hb d_M_spread_93 rfl (lv_at hl 2 rfl) ?_
                    refine va_get (D := D) (ci := 8) (v := .ref fla) (C := R_M) (T := F_M) (N := 34) hx hb hts uw_M hown hK hP 0 rfl rfl 18 (by decide) (hts _ fl_M_31) (fun _ h9 => h9) rfl d_M_spread_94 ?_
                    refine lv_iload hx hb d_M_spread_97 (lv_at hl 1 rfl) ?_
                    refine hq_iald (j := q / L9.length) hx hb hK hP 5 rfl (by omega) (by omega) d_M_spread_99 ?_
                    refine lv_aload_n hx hb d_M_spread_100 rfl (lv_at hl 2 rfl) ?_
                    refine va_get (D := D) (ci := 8) (v := .ref lfa) (C := R_M) (T := F_M) (N := 34) hx hb hts uw_M hown hK hP 0 rfl rfl 11 (by decide) (hts _ fl_M_19) (fun _ h9 => h9) rfl d_M_spread_101 ?_
                    refine lv_iload_n hx hb d_M_spread_104 rfl (lv_at hl 3 rfl) ?_
                    refine hq_iald (j := c0) hx hb hK hP 6 rfl (by omega) (by omega) d_M_spread_105 ?_
                    refine lv_icmp_ne (tgt := 151) hx hb d_M_spread_106 rfl (fun c106 => ?_) (fun c106 => ?_)
                    · -- 106 taken
                      have c106 : ¬ (fl2 (q / L9.length)) = (cl c0) := c106
                      refine lv_iconst (v := 0) hx hb d_M_spread_151 (by decide) ?_
                      refine lv_istore (nL := 8) (lv' := [(7, .int 0), (6, .int (nI (q % L9.length))), (5, .int (nI (q / L9.length))), (0, .ref h), (3, .int (nI c0)), (4, .int (nI q))]) hx hb d_M_spread_152 hl (by decide) rfl (fun ls hl => ?_)
                      refine lv_iload hx hb d_M_spread_154 (lv_at hl 0 rfl) ?_
                      refine lv_if_eq (tgt := 202) hx hb d_M_spread_156 rfl (fun c156 => ?_) (fun c156 => ?_)
                      · skip
                        refine lv_iinc (nL := 8) (k := 5) (v := nI (q + 1)) (lv' := [(4, .int (nI (q + 1))), (7, .int 0), (6, .int (nI (q % L9.length))), (5, .int (nI (q / L9.length))), (0, .ref h), (3, .int (nI c0))]) hx hb d_M_spread_202 hl rfl (nI_add q 1) (by decide) rfl (fun ls hl => ?_)
                        refine lv_goto (tgt := 61) hx hb d_M_spread_205 rfl ?_
                        exact ih61 _ (by omega) (q + 1) Wm ls H locs rfl (by first | assumption | omega) (by rw [hG, hq_crM_no (q := q) (j := L9.length * L9.length) (by omega) (hq_out1 c106)]) (lv_sub hl [4, 5, 0] rfl) hP hD hS
                      · exact absurd (by decide) c156
                    · -- 106 not taken
                      have c106 : (fl2 (q / L9.length)) = (cl c0) := c106
                      refine lv_aload_n hx hb d_M_spread_109 rfl (lv_at hl 2 rfl) ?_
                      refine va_get (D := D) (ci := 8) (v := .ref fla) (C := R_M) (T := F_M) (N := 34) hx hb hts uw_M hown hK hP 0 rfl rfl 18 (by decide) (hts _ fl_M_31) (fun _ h9 => h9) rfl d_M_spread_110 ?_
                      refine lv_iload hx hb d_M_spread_113 (lv_at hl 0 rfl) ?_
                      refine hq_iald (j := q % L9.length) hx hb hK hP 5 rfl (by omega) (by omega) d_M_spread_115 ?_
                      refine lv_aload_n hx hb d_M_spread_116 rfl (lv_at hl 2 rfl) ?_
                      refine va_get (D := D) (ci := 8) (v := .ref rta) (C := R_M) (T := F_M) (N := 34) hx hb hts uw_M hown hK hP 0 rfl rfl 12 (by decide) (hts _ fl_M_22) (fun _ h9 => h9) rfl d_M_spread_117 ?_
                      refine lv_iload_n hx hb d_M_spread_120 rfl (lv_at hl 3 rfl) ?_
                      refine hq_iald (j := c0) hx hb hK hP 7 rfl (by omega) (by omega) d_M_spread_121 ?_
                      refine lv_icmp_ne (tgt := 151) hx hb d_M_spread_122 rfl (fun c122 => ?_) (fun c122 => ?_)
                      · -- 122 taken
                        have c122 : ¬ (fl2 (q % L9.length)) = (cr c0) := c122
                        refine lv_iconst (v := 0) hx hb d_M_spread_151 (by decide) ?_
                        refine lv_istore (nL := 8) (lv' := [(7, .int 0), (6, .int (nI (q % L9.length))), (5, .int (nI (q / L9.length))), (0, .ref h), (3, .int (nI c0)), (4, .int (nI q))]) hx hb d_M_spread_152 hl (by decide) rfl (fun ls hl => ?_)
                        refine lv_iload hx hb d_M_spread_154 (lv_at hl 0 rfl) ?_
                        refine lv_if_eq (tgt := 202) hx hb d_M_spread_156 rfl (fun c156 => ?_) (fun c156 => ?_)
                        · skip
                          refine lv_iinc (nL := 8) (k := 5) (v := nI (q + 1)) (lv' := [(4, .int (nI (q + 1))), (7, .int 0), (6, .int (nI (q % L9.length))), (5, .int (nI (q / L9.length))), (0, .ref h), (3, .int (nI c0))]) hx hb d_M_spread_202 hl rfl (nI_add q 1) (by decide) rfl (fun ls hl => ?_)
                          refine lv_goto (tgt := 61) hx hb d_M_spread_205 rfl ?_
                          exact ih61 _ (by omega) (q + 1) Wm ls H locs rfl (by first | assumption | omega) (by rw [hG, hq_crM_no (q := q) (j := L9.length * L9.length) (by omega) (hq_out2 c122)]) (lv_sub hl [4, 5, 0] rfl) hP hD hS
                        · exact absurd (by decide) c156
                      · -- 122 not taken
                        have c122 : (fl2 (q % L9.length)) = (cr c0) := c122
                        refine lv_aload_n hx hb d_M_spread_125 rfl (lv_at hl 2 rfl) ?_
                        refine va_get (D := D) (ci := 8) (v := .ref lfa) (C := R_M) (T := F_M) (N := 34) hx hb hts uw_M hown hK hP 0 rfl rfl 11 (by decide) (hts _ fl_M_19) (fun _ h9 => h9) rfl d_M_spread_126 ?_
                        refine lv_iload_n hx hb d_M_spread_129 rfl (lv_at hl 3 rfl) ?_
                        refine hq_iald (j := c0) hx hb hK hP 6 rfl (by omega) (by omega) d_M_spread_130 ?_
                        refine lv_aload_n hx hb d_M_spread_131 rfl (lv_at hl 2 rfl) ?_
                        refine va_get (D := D) (ci := 8) (v := .ref rta) (C := R_M) (T := F_M) (N := 34) hx hb hts uw_M hown hK hP 0 rfl rfl 12 (by decide) (hts _ fl_M_22) (fun _ h9 => h9) rfl d_M_spread_132 ?_
                        refine lv_iload_n hx hb d_M_spread_135 rfl (lv_at hl 3 rfl) ?_
                        refine hq_iald (j := c0) hx hb hK hP 7 rfl (by omega) (by omega) d_M_spread_136 ?_
                        refine lv_icmp_ne (tgt := 147) hx hb d_M_spread_137 rfl (fun c137 => ?_) (fun c137 => ?_)
                        · -- 137 taken
                          have c137 : ¬ (cl c0) = (cr c0) := c137
                          refine lv_iconst (v := 1) hx hb d_M_spread_147 (by decide) ?_
                          refine lv_goto (tgt := 152) hx hb d_M_spread_148 rfl ?_
                          refine lv_istore (nL := 8) (lv' := [(7, .int 1), (6, .int (nI (q % L9.length))), (5, .int (nI (q / L9.length))), (0, .ref h), (3, .int (nI c0)), (4, .int (nI q))]) hx hb d_M_spread_152 hl (by decide) rfl (fun ls hl => ?_)
                          refine lv_iload hx hb d_M_spread_154 (lv_at hl 0 rfl) ?_
                          refine lv_if_eq (tgt := 202) hx hb d_M_spread_156 rfl (fun c156 => ?_) (fun c156 => ?_)
                          · exact absurd c156 (by decide)
                          · skip
                            have hi9 := hq_in1 c106 c122 c137
                            refine lv_aload_n hx hb d_M_spread_159 rfl (lv_at hl 3 rfl) ?_
                            have hy := congrArg List.length hF
                            rw [hq_crs_go (g := c0) (j := nc) (by omega), List.length_append, List.length_append, List.length_append] at hy
                            have hz := congrArg List.length hG
                            rw [hq_crM_yes (q := q) (j := L9.length * L9.length) (by omega) hi9, List.length_append, List.length_append, List.length_cons] at hz
                            refine lv_aload_n hx hb d_M_spread_160 rfl (lv_at hl 3 rfl) ?_
                            refine va_get (D := D) (ci := 8) (v := .ref fha) (C := R_M) (T := F_M) (N := 34) hx hb hts uw_M hown hK hP 0 rfl rfl 16 (by decide) (hts _ fl_M_25) (fun _ h9 => h9) rfl d_M_spread_161 ?_
                            refine lv_iload hx hb d_M_spread_164 (lv_at hl 2 rfl) ?_
                            refine hq_iald (j := q / L9.length) hx hb hK hP 3 rfl (by omega) (by omega) d_M_spread_166 ?_
                            refine lv_ldc (v := 16777619) hx hb hown (hts _ ki_M_171) d_M_spread_167 ?_
                            refine lv_imul hx hb d_M_spread_169 ?_
                            refine lv_aload_n hx hb d_M_spread_170 rfl (lv_at hl 3 rfl) ?_
                            refine va_get (D := D) (ci := 8) (v := .ref fha) (C := R_M) (T := F_M) (N := 34) hx hb hts uw_M hown hK hP 0 rfl rfl 16 (by decide) (hts _ fl_M_25) (fun _ h9 => h9) rfl d_M_spread_171 ?_
                            refine lv_iload hx hb d_M_spread_174 (lv_at hl 1 rfl) ?_
                            refine hq_iald (j := q % L9.length) hx hb hK hP 3 rfl (by omega) (by omega) d_M_spread_176 ?_
                            refine lv_ixor hx hb d_M_spread_177 ?_
                            refine lv_aload_n hx hb d_M_spread_178 rfl (lv_at hl 3 rfl) ?_
                            refine va_get (D := D) (ci := 8) (v := .ref fva) (C := R_M) (T := F_M) (N := 34) hx hb hts uw_M hown hK hP 0 rfl rfl 17 (by decide) (hts _ fl_M_28) (fun _ h9 => h9) rfl d_M_spread_179 ?_
                            refine lv_iload hx hb d_M_spread_182 (lv_at hl 2 rfl) ?_
                            refine hq_iald (j := q / L9.length) hx hb hK hP 4 rfl (by omega) (by omega) d_M_spread_184 ?_
                            refine lv_i2l (v := Int32.toInt64 (fv2 (q / L9.length))) hx hb d_M_spread_185 rfl ?_
                            refine lv_aload_n hx hb d_M_spread_186 rfl (lv_at hl 3 rfl) ?_
                            refine va_get (D := D) (ci := 8) (v := .ref fva) (C := R_M) (T := F_M) (N := 34) hx hb hts uw_M hown hK hP 0 rfl rfl 17 (by decide) (hts _ fl_M_28) (fun _ h9 => h9) rfl d_M_spread_187 ?_
                            refine lv_iload hx hb d_M_spread_190 (lv_at hl 1 rfl) ?_
                            refine hq_iald (j := q % L9.length) hx hb hK hP 4 rfl (by omega) (by omega) d_M_spread_192 ?_
                            refine lv_i2l (v := Int32.toInt64 (fv2 (q % L9.length))) hx hb d_M_spread_193 rfl ?_
                            refine lv_lmul hx hb d_M_spread_194 ?_
                            refine lv_ldc2 (v := 100) hx hb hown (hts _ kl_M_128) d_M_spread_195 ?_
                            refine lv_ldiv hx hb d_M_spread_198 (by decide) ?_
                            have hPc : va_P D hq_cl ([hq_o8 h (nI n) kd ru ya (nI sz) ta la (nI rg) (nI so) (hq_z bg) (nI nc) lfa rta (if lab9 = true then lb9 else 1000000) im9 (nI L9.length) fha fva fla (nI sp2) (nI (Wm.length)) tha tva wa sa ca va tt ld pt pw (nI rc) ra wn, hq_ai tha (G 0) 120 (hq_wr upd th 0 (Wm.map Prod.fst)), hq_ai tva (G 0) 120 (hq_wr upd tv 0 (Wm.map Prod.snd))] ++ ([hq_ai la (G 0) 20 ln, hq_ai ta (G 0) 2000 tx, hq_ai fha (G 0) 12 fh2, hq_ai fva (G 0) 12 fv2, hq_ai fla (G 0) 12 fl2, hq_ai lfa (G 0) 3 cl, hq_ai rta (G 0) 3 cr] ++ Z)) H := va_P.part (cx := [hq_o8 h (nI n) kd ru ya (nI sz) ta la (nI rg) (nI so) (hq_z bg) (nI nc) lfa rta (if lab9 = true then lb9 else 1000000) im9 (nI L9.length) fha fva fla (nI sp2) (nI (Wm.length)) tha tva wa sa ca va tt ld pt pw (nI rc) ra wn, hq_ai tha (G 0) 120 (hq_wr upd th 0 (Wm.map Prod.fst)), hq_ai tva (G 0) 120 (hq_wr upd tv 0 (Wm.map Prod.snd)), hq_ai la (G 0) 20 ln, hq_ai ta (G 0) 2000 tx, hq_ai fha (G 0) 12 fh2, hq_ai fva (G 0) 12 fv2, hq_ai fla (G 0) 12 fl2, hq_ai lfa (G 0) 3 cl, hq_ai rta (G 0) 3 cr]) hP [0, 8, 9, 1, 2, 3, 4, 5, 6, 7] rfl
                            have hDc : va_D A ([hq_o8 h (nI n) kd ru ya (nI sz) ta la (nI rg) (nI so) (hq_z bg) (nI nc) lfa rta (if lab9 = true then lb9 else 1000000) im9 (nI L9.length) fha fva fla (nI sp2) (nI (Wm.length)) tha tva wa sa ca va tt ld pt pw (nI rc) ra wn, hq_ai tha (G 0) 120 (hq_wr upd th 0 (Wm.map Prod.fst)), hq_ai tva (G 0) 120 (hq_wr upd tv 0 (Wm.map Prod.snd))] ++ ([hq_ai la (G 0) 20 ln, hq_ai ta (G 0) 2000 tx, hq_ai fha (G 0) 12 fh2, hq_ai fva (G 0) 12 fv2, hq_ai fla (G 0) 12 fl2, hq_ai lfa (G 0) 3 cl, hq_ai rta (G 0) 3 cr] ++ Z)) := va_D.part (cx := [hq_o8 h (nI n) kd ru ya (nI sz) ta la (nI rg) (nI so) (hq_z bg) (nI nc) lfa rta (if lab9 = true then lb9 else 1000000) im9 (nI L9.length) fha fva fla (nI sp2) (nI (Wm.length)) tha tva wa sa ca va tt ld pt pw (nI rc) ra wn, hq_ai tha (G 0) 120 (hq_wr upd th 0 (Wm.map Prod.fst)), hq_ai tva (G 0) 120 (hq_wr upd tv 0 (Wm.map Prod.snd)), hq_ai la (G 0) 20 ln, hq_ai ta (G 0) 2000 tx, hq_ai fha (G 0) 12 fh2, hq_ai fva (G 0) 12 fv2, hq_ai fla (G 0) 12 fl2, hq_ai lfa (G 0) 3 cl, hq_ai rta (G 0) 3 cr]) hD [0, 8, 9, 1, 2, 3, 4, 5, 6, 7] (by decide) rfl
                            refine hq_vF (hq_rV (As := [.int (((fh2 (q / L9.length)) * 16777619) ^^^ (fh2 (q % L9.length))), .long (((Int32.toInt64 (fv2 (q / L9.length))) * (Int32.toInt64 (fv2 (q % L9.length)))) / 100)]) (rest := []) hx hb hml hown hts (c_M_term l D G A ([hq_ai la (G 0) 20 ln, hq_ai ta (G 0) 2000 tx, hq_ai fha (G 0) 12 fh2, hq_ai fva (G 0) 12 fv2, hq_ai fla (G 0) 12 fl2, hq_ai lfa (G 0) 3 cl, hq_ai rta (G 0) 3 cr] ++ Z) h n kd ru ya sz ta la rg so bg nc lfa rta (if lab9 = true then lb9 else 1000000) im9 L9.length fha fva fla sp2 Wm.length tha tva wa sa ca va tt ld pt pw rc ra wn (hq_wr upd th 0 (Wm.map Prod.fst)) (hq_wr upd tv 0 (Wm.map Prod.snd)) (((fh2 (q / L9.length)) * 16777619) ^^^ (fh2 (q % L9.length))) (((Int32.toInt64 (fv2 (q / L9.length))) * (Int32.toInt64 (fv2 (q % L9.length)))) / 100) (by first | assumption | omega)) yy_M_term lk_M_167 hA hK hN hS hPc hDc 0 8 rfl rfl rfl hl.1 rfl (Nat.le_of_ble_eq_true rfl) d_M_spread_199 ⟨by decide, by decide⟩ ⟨by decide, by decide⟩) hS (fun H locs hP hD hS => ?_)
                            have hP : va_P D hq_cl ([hq_o8 h (nI n) kd ru ya (nI sz) ta la (nI rg) (nI so) (hq_z bg) (nI nc) lfa rta (if lab9 = true then lb9 else 1000000) im9 (nI L9.length) fha fva fla (nI sp2) (nI (Wm.length + 1)) tha tva wa sa ca va tt ld pt pw (nI rc) ra wn, hq_ai tha (G 0) 120 (upd (hq_wr upd th 0 (Wm.map Prod.fst)) Wm.length (((fh2 (q / L9.length)) * 16777619) ^^^ (fh2 (q % L9.length)))), hq_ai tva (G 0) 120 (upd (hq_wr upd tv 0 (Wm.map Prod.snd)) Wm.length (Int64.toInt32 (f_M_clip (((Int32.toInt64 (fv2 (q / L9.length))) * (Int32.toInt64 (fv2 (q % L9.length)))) / 100) 99999))), hq_ai la (G 0) 20 ln, hq_ai ta (G 0) 2000 tx, hq_ai fha (G 0) 12 fh2, hq_ai fva (G 0) 12 fv2, hq_ai fla (G 0) 12 fl2, hq_ai lfa (G 0) 3 cl, hq_ai rta (G 0) 3 cr] ++ Z) H := hP
                            have hD : va_D A ([hq_o8 h (nI n) kd ru ya (nI sz) ta la (nI rg) (nI so) (hq_z bg) (nI nc) lfa rta (if lab9 = true then lb9 else 1000000) im9 (nI L9.length) fha fva fla (nI sp2) (nI (Wm.length + 1)) tha tva wa sa ca va tt ld pt pw (nI rc) ra wn, hq_ai tha (G 0) 120 (upd (hq_wr upd th 0 (Wm.map Prod.fst)) Wm.length (((fh2 (q / L9.length)) * 16777619) ^^^ (fh2 (q % L9.length)))), hq_ai tva (G 0) 120 (upd (hq_wr upd tv 0 (Wm.map Prod.snd)) Wm.length (Int64.toInt32 (f_M_clip (((Int32.toInt64 (fv2 (q / L9.length))) * (Int32.toInt64 (fv2 (q % L9.length)))) / 100) 99999))), hq_ai la (G 0) 20 ln, hq_ai ta (G 0) 2000 tx, hq_ai fha (G 0) 12 fh2, hq_ai fva (G 0) 12 fv2, hq_ai fla (G 0) 12 fl2, hq_ai lfa (G 0) 3 cl, hq_ai rta (G 0) 3 cr] ++ Z) := hD
                            refine lv_iinc (nL := 8) (k := 5) (v := nI (q + 1)) (lv' := [(4, .int (nI (q + 1))), (7, .int 1), (6, .int (nI (q % L9.length))), (5, .int (nI (q / L9.length))), (0, .ref h), (3, .int (nI c0))]) hx hb d_M_spread_202 hl rfl (nI_add q 1) (by decide) rfl (fun ls hl => ?_)
                            refine lv_goto (tgt := 61) hx hb d_M_spread_205 rfl ?_
                            have hP := va_P.part (cx := [hq_o8 h (nI n) kd ru ya (nI sz) ta la (nI rg) (nI so) (hq_z bg) (nI nc) lfa rta (if lab9 = true then lb9 else 1000000) im9 (nI L9.length) fha fva fla (nI sp2) (nI (Wm.length + 1)) tha tva wa sa ca va tt ld pt pw (nI rc) ra wn, hq_ai la (G 0) 20 ln, hq_ai ta (G 0) 2000 tx, hq_ai fha (G 0) 12 fh2, hq_ai fva (G 0) 12 fv2, hq_ai fla (G 0) 12 fl2, hq_ai lfa (G 0) 3 cl, hq_ai rta (G 0) 3 cr, hq_ai tha (G 0) 120 (upd (hq_wr upd th 0 (Wm.map Prod.fst)) Wm.length (((fh2 (q / L9.length)) * 16777619) ^^^ (fh2 (q % L9.length)))), hq_ai tva (G 0) 120 (upd (hq_wr upd tv 0 (Wm.map Prod.snd)) Wm.length (Int64.toInt32 (f_M_clip (((Int32.toInt64 (fv2 (q / L9.length))) * (Int32.toInt64 (fv2 (q % L9.length)))) / 100) 99999)))]) hP [0, 3, 4, 5, 6, 7, 8, 9, 1, 2] rfl
                            have hD := va_D.part (cx := [hq_o8 h (nI n) kd ru ya (nI sz) ta la (nI rg) (nI so) (hq_z bg) (nI nc) lfa rta (if lab9 = true then lb9 else 1000000) im9 (nI L9.length) fha fva fla (nI sp2) (nI (Wm.length + 1)) tha tva wa sa ca va tt ld pt pw (nI rc) ra wn, hq_ai la (G 0) 20 ln, hq_ai ta (G 0) 2000 tx, hq_ai fha (G 0) 12 fh2, hq_ai fva (G 0) 12 fv2, hq_ai fla (G 0) 12 fl2, hq_ai lfa (G 0) 3 cl, hq_ai rta (G 0) 3 cr, hq_ai tha (G 0) 120 (upd (hq_wr upd th 0 (Wm.map Prod.fst)) Wm.length (((fh2 (q / L9.length)) * 16777619) ^^^ (fh2 (q % L9.length)))), hq_ai tva (G 0) 120 (upd (hq_wr upd tv 0 (Wm.map Prod.snd)) Wm.length (Int64.toInt32 (f_M_clip (((Int32.toInt64 (fv2 (q / L9.length))) * (Int32.toInt64 (fv2 (q % L9.length)))) / 100) 99999)))]) hD [0, 3, 4, 5, 6, 7, 8, 9, 1, 2] (by decide) rfl
                            have e9_0 : (nI ((Wm ++ [hq_tm fh2 fv2 (q / L9.length) (q % L9.length)]).length)) = (nI (Wm.length + 1)) := by first | exact hq_wrF0 | exact hq_wrN0 | (rw [hq_clip_id (hb9 f (by omega)).1 (hb9 f (by omega)).2]; exact hq_wrF0) | (rw [hq_clipM]; exact hq_wrF0) | rfl
                            have e9_1 : (hq_wr upd th 0 ((Wm ++ [hq_tm fh2 fv2 (q / L9.length) (q % L9.length)]).map Prod.fst)) = (upd (hq_wr upd th 0 (Wm.map Prod.fst)) Wm.length (((fh2 (q / L9.length)) * 16777619) ^^^ (fh2 (q % L9.length)))) := by first | exact hq_wrF0 | exact hq_wrN0 | (rw [hq_clip_id (hb9 f (by omega)).1 (hb9 f (by omega)).2]; exact hq_wrF0) | (rw [hq_clipM]; exact hq_wrF0) | rfl
                            have e9_2 : (hq_wr upd tv 0 ((Wm ++ [hq_tm fh2 fv2 (q / L9.length) (q % L9.length)]).map Prod.snd)) = (upd (hq_wr upd tv 0 (Wm.map Prod.snd)) Wm.length (Int64.toInt32 (f_M_clip (((Int32.toInt64 (fv2 (q / L9.length))) * (Int32.toInt64 (fv2 (q % L9.length)))) / 100) 99999))) := by first | exact hq_wrF0 | exact hq_wrN0 | (rw [hq_clip_id (hb9 f (by omega)).1 (hb9 f (by omega)).2]; exact hq_wrF0) | (rw [hq_clipM]; exact hq_wrF0) | rfl
                            have hP : va_P D hq_cl ([hq_o8 h (nI n) kd ru ya (nI sz) ta la (nI rg) (nI so) (hq_z bg) (nI nc) lfa rta (if lab9 = true then lb9 else 1000000) im9 (nI L9.length) fha fva fla (nI sp2) (nI ((Wm ++ [hq_tm fh2 fv2 (q / L9.length) (q % L9.length)]).length)) tha tva wa sa ca va tt ld pt pw (nI rc) ra wn, hq_ai la (G 0) 20 ln, hq_ai ta (G 0) 2000 tx, hq_ai fha (G 0) 12 fh2, hq_ai fva (G 0) 12 fv2, hq_ai fla (G 0) 12 fl2, hq_ai lfa (G 0) 3 cl, hq_ai rta (G 0) 3 cr, hq_ai tha (G 0) 120 (hq_wr upd th 0 ((Wm ++ [hq_tm fh2 fv2 (q / L9.length) (q % L9.length)]).map Prod.fst)), hq_ai tva (G 0) 120 (hq_wr upd tv 0 ((Wm ++ [hq_tm fh2 fv2 (q / L9.length) (q % L9.length)]).map Prod.snd))] ++ Z) H := by rw [e9_0, e9_1, e9_2]; exact hP
                            have hD : va_D A ([hq_o8 h (nI n) kd ru ya (nI sz) ta la (nI rg) (nI so) (hq_z bg) (nI nc) lfa rta (if lab9 = true then lb9 else 1000000) im9 (nI L9.length) fha fva fla (nI sp2) (nI ((Wm ++ [hq_tm fh2 fv2 (q / L9.length) (q % L9.length)]).length)) tha tva wa sa ca va tt ld pt pw (nI rc) ra wn, hq_ai la (G 0) 20 ln, hq_ai ta (G 0) 2000 tx, hq_ai fha (G 0) 12 fh2, hq_ai fva (G 0) 12 fv2, hq_ai fla (G 0) 12 fl2, hq_ai lfa (G 0) 3 cl, hq_ai rta (G 0) 3 cr, hq_ai tha (G 0) 120 (hq_wr upd th 0 ((Wm ++ [hq_tm fh2 fv2 (q / L9.length) (q % L9.length)]).map Prod.fst)), hq_ai tva (G 0) 120 (hq_wr upd tv 0 ((Wm ++ [hq_tm fh2 fv2 (q / L9.length) (q % L9.length)]).map Prod.snd))] ++ Z) := by rw [e9_0, e9_1, e9_2]; exact hD
                            exact ih61 _ (by omega) (q + 1) (Wm ++ [hq_tm fh2 fv2 (q / L9.length) (q % L9.length)]) ls H locs rfl (by first | assumption | omega) (by rw [hG, hq_crM_yes (q := q) (j := L9.length * L9.length) (by omega) hi9, List.append_assoc]; rfl) (lv_sub hl [4, 5, 0] rfl) hP hD hS
                        · -- 137 not taken
                          have c137 : (cl c0) = (cr c0) := c137
                          refine lv_iload hx hb d_M_spread_140 (lv_at hl 0 rfl) ?_
                          refine lv_iload hx hb d_M_spread_142 (lv_at hl 1 rfl) ?_
                          refine lv_icmp_lt (tgt := 151) hx hb d_M_spread_144 rfl (fun c144 => ?_) (fun c144 => ?_)
                          · -- 144 taken
                            have c144 : (q % L9.length) < (q / L9.length) := (nI_ltI (a := q % L9.length) (b := q / L9.length) (by omega) (by omega)).mp c144
                            refine lv_iconst (v := 0) hx hb d_M_spread_151 (by decide) ?_
                            refine lv_istore (nL := 8) (lv' := [(7, .int 0), (6, .int (nI (q % L9.length))), (5, .int (nI (q / L9.length))), (0, .ref h), (3, .int (nI c0)), (4, .int (nI q))]) hx hb d_M_spread_152 hl (by decide) rfl (fun ls hl => ?_)
                            refine lv_iload hx hb d_M_spread_154 (lv_at hl 0 rfl) ?_
                            refine lv_if_eq (tgt := 202) hx hb d_M_spread_156 rfl (fun c156 => ?_) (fun c156 => ?_)
                            · skip
                              refine lv_iinc (nL := 8) (k := 5) (v := nI (q + 1)) (lv' := [(4, .int (nI (q + 1))), (7, .int 0), (6, .int (nI (q % L9.length))), (5, .int (nI (q / L9.length))), (0, .ref h), (3, .int (nI c0))]) hx hb d_M_spread_202 hl rfl (nI_add q 1) (by decide) rfl (fun ls hl => ?_)
                              refine lv_goto (tgt := 61) hx hb d_M_spread_205 rfl ?_
                              exact ih61 _ (by omega) (q + 1) Wm ls H locs rfl (by first | assumption | omega) (by rw [hG, hq_crM_no (q := q) (j := L9.length * L9.length) (by omega) (hq_out3 c137 c144)]) (lv_sub hl [4, 5, 0] rfl) hP hD hS
                            · exact absurd (by decide) c156
                          · -- 144 not taken
                            have c144 : ¬ (q % L9.length) < (q / L9.length) := fun h => c144 ((nI_ltI (a := q % L9.length) (b := q / L9.length) (by omega) (by omega)).mpr h)
                            refine lv_iconst (v := 1) hx hb d_M_spread_147 (by decide) ?_
                            refine lv_goto (tgt := 152) hx hb d_M_spread_148 rfl ?_
                            refine lv_istore (nL := 8) (lv' := [(7, .int 1), (6, .int (nI (q % L9.length))), (5, .int (nI (q / L9.length))), (0, .ref h), (3, .int (nI c0)), (4, .int (nI q))]) hx hb d_M_spread_152 hl (by decide) rfl (fun ls hl => ?_)
                            refine lv_iload hx hb d_M_spread_154 (lv_at hl 0 rfl) ?_
                            refine lv_if_eq (tgt := 202) hx hb d_M_spread_156 rfl (fun c156 => ?_) (fun c156 => ?_)
                            · exact absurd c156 (by decide)
                            · skip
                              have hi9 := hq_in2 c106 c122 c144
                              refine lv_aload_n hx hb d_M_spread_159 rfl (lv_at hl 3 rfl) ?_
                              have hy := congrArg List.length hF
                              rw [hq_crs_go (g := c0) (j := nc) (by omega), List.length_append, List.length_append, List.length_append] at hy
                              have hz := congrArg List.length hG
                              rw [hq_crM_yes (q := q) (j := L9.length * L9.length) (by omega) hi9, List.length_append, List.length_append, List.length_cons] at hz
                              refine lv_aload_n hx hb d_M_spread_160 rfl (lv_at hl 3 rfl) ?_
                              refine va_get (D := D) (ci := 8) (v := .ref fha) (C := R_M) (T := F_M) (N := 34) hx hb hts uw_M hown hK hP 0 rfl rfl 16 (by decide) (hts _ fl_M_25) (fun _ h9 => h9) rfl d_M_spread_161 ?_
                              refine lv_iload hx hb d_M_spread_164 (lv_at hl 2 rfl) ?_
                              refine hq_iald (j := q / L9.length) hx hb hK hP 3 rfl (by omega) (by omega) d_M_spread_166 ?_
                              refine lv_ldc (v := 16777619) hx hb hown (hts _ ki_M_171) d_M_spread_167 ?_
                              refine lv_imul hx hb d_M_spread_169 ?_
                              refine lv_aload_n hx hb d_M_spread_170 rfl (lv_at hl 3 rfl) ?_
                              refine va_get (D := D) (ci := 8) (v := .ref fha) (C := R_M) (T := F_M) (N := 34) hx hb hts uw_M hown hK hP 0 rfl rfl 16 (by decide) (hts _ fl_M_25) (fun _ h9 => h9) rfl d_M_spread_171 ?_
                              refine lv_iload hx hb d_M_spread_174 (lv_at hl 1 rfl) ?_
                              refine hq_iald (j := q % L9.length) hx hb hK hP 3 rfl (by omega) (by omega) d_M_spread_176 ?_
                              refine lv_ixor hx hb d_M_spread_177 ?_
                              refine lv_aload_n hx hb d_M_spread_178 rfl (lv_at hl 3 rfl) ?_
                              refine va_get (D := D) (ci := 8) (v := .ref fva) (C := R_M) (T := F_M) (N := 34) hx hb hts uw_M hown hK hP 0 rfl rfl 17 (by decide) (hts _ fl_M_28) (fun _ h9 => h9) rfl d_M_spread_179 ?_
                              refine lv_iload hx hb d_M_spread_182 (lv_at hl 2 rfl) ?_
                              refine hq_iald (j := q / L9.length) hx hb hK hP 4 rfl (by omega) (by omega) d_M_spread_184 ?_
                              refine lv_i2l (v := Int32.toInt64 (fv2 (q / L9.length))) hx hb d_M_spread_185 rfl ?_
                              refine lv_aload_n hx hb d_M_spread_186 rfl (lv_at hl 3 rfl) ?_
                              refine va_get (D := D) (ci := 8) (v := .ref fva) (C := R_M) (T := F_M) (N := 34) hx hb hts uw_M hown hK hP 0 rfl rfl 17 (by decide) (hts _ fl_M_28) (fun _ h9 => h9) rfl d_M_spread_187 ?_
                              refine lv_iload hx hb d_M_spread_190 (lv_at hl 1 rfl) ?_
                              refine hq_iald (j := q % L9.length) hx hb hK hP 4 rfl (by omega) (by omega) d_M_spread_192 ?_
                              refine lv_i2l (v := Int32.toInt64 (fv2 (q % L9.length))) hx hb d_M_spread_193 rfl ?_
                              refine lv_lmul hx hb d_M_spread_194 ?_
                              refine lv_ldc2 (v := 100) hx hb hown (hts _ kl_M_128) d_M_spread_195 ?_
                              refine lv_ldiv hx hb d_M_spread_198 (by decide) ?_
                              have hPc : va_P D hq_cl ([hq_o8 h (nI n) kd ru ya (nI sz) ta la (nI rg) (nI so) (hq_z bg) (nI nc) lfa rta (if lab9 = true then lb9 else 1000000) im9 (nI L9.length) fha fva fla (nI sp2) (nI (Wm.length)) tha tva wa sa ca va tt ld pt pw (nI rc) ra wn, hq_ai tha (G 0) 120 (hq_wr upd th 0 (Wm.map Prod.fst)), hq_ai tva (G 0) 120 (hq_wr upd tv 0 (Wm.map Prod.snd))] ++ ([hq_ai la (G 0) 20 ln, hq_ai ta (G 0) 2000 tx, hq_ai fha (G 0) 12 fh2, hq_ai fva (G 0) 12 fv2, hq_ai fla (G 0) 12 fl2, hq_ai lfa (G 0) 3 cl, hq_ai rta (G 0) 3 cr] ++ Z)) H := va_P.part (cx := [hq_o8 h (nI n) kd ru ya (nI sz) ta la (nI rg) (nI so) (hq_z bg) (nI nc) lfa rta (if lab9 = true then lb9 else 1000000) im9 (nI L9.length) fha fva fla (nI sp2) (nI (Wm.length)) tha tva wa sa ca va tt ld pt pw (nI rc) ra wn, hq_ai tha (G 0) 120 (hq_wr upd th 0 (Wm.map Prod.fst)), hq_ai tva (G 0) 120 (hq_wr upd tv 0 (Wm.map Prod.snd)), hq_ai la (G 0) 20 ln, hq_ai ta (G 0) 2000 tx, hq_ai fha (G 0) 12 fh2, hq_ai fva (G 0) 12 fv2, hq_ai fla (G 0) 12 fl2, hq_ai lfa (G 0) 3 cl, hq_ai rta (G 0) 3 cr]) hP [0, 8, 9, 1, 2, 3, 4, 5, 6, 7] rfl
                              have hDc : va_D A ([hq_o8 h (nI n) kd ru ya (nI sz) ta la (nI rg) (nI so) (hq_z bg) (nI nc) lfa rta (if lab9 = true then lb9 else 1000000) im9 (nI L9.length) fha fva fla (nI sp2) (nI (Wm.length)) tha tva wa sa ca va tt ld pt pw (nI rc) ra wn, hq_ai tha (G 0) 120 (hq_wr upd th 0 (Wm.map Prod.fst)), hq_ai tva (G 0) 120 (hq_wr upd tv 0 (Wm.map Prod.snd))] ++ ([hq_ai la (G 0) 20 ln, hq_ai ta (G 0) 2000 tx, hq_ai fha (G 0) 12 fh2, hq_ai fva (G 0) 12 fv2, hq_ai fla (G 0) 12 fl2, hq_ai lfa (G 0) 3 cl, hq_ai rta (G 0) 3 cr] ++ Z)) := va_D.part (cx := [hq_o8 h (nI n) kd ru ya (nI sz) ta la (nI rg) (nI so) (hq_z bg) (nI nc) lfa rta (if lab9 = true then lb9 else 1000000) im9 (nI L9.length) fha fva fla (nI sp2) (nI (Wm.length)) tha tva wa sa ca va tt ld pt pw (nI rc) ra wn, hq_ai tha (G 0) 120 (hq_wr upd th 0 (Wm.map Prod.fst)), hq_ai tva (G 0) 120 (hq_wr upd tv 0 (Wm.map Prod.snd)), hq_ai la (G 0) 20 ln, hq_ai ta (G 0) 2000 tx, hq_ai fha (G 0) 12 fh2, hq_ai fva (G 0) 12 fv2, hq_ai fla (G 0) 12 fl2, hq_ai lfa (G 0) 3 cl, hq_ai rta (G 0) 3 cr]) hD [0, 8, 9, 1, 2, 3, 4, 5, 6, 7] (by decide) rfl
                              refine hq_vF (hq_rV (As := [.int (((fh2 (q / L9.length)) * 16777619) ^^^ (fh2 (q % L9.length))), .long (((Int32.toInt64 (fv2 (q / L9.length))) * (Int32.toInt64 (fv2 (q % L9.length)))) / 100)]) (rest := []) hx hb hml hown hts (c_M_term l D G A ([hq_ai la (G 0) 20 ln, hq_ai ta (G 0) 2000 tx, hq_ai fha (G 0) 12 fh2, hq_ai fva (G 0) 12 fv2, hq_ai fla (G 0) 12 fl2, hq_ai lfa (G 0) 3 cl, hq_ai rta (G 0) 3 cr] ++ Z) h n kd ru ya sz ta la rg so bg nc lfa rta (if lab9 = true then lb9 else 1000000) im9 L9.length fha fva fla sp2 Wm.length tha tva wa sa ca va tt ld pt pw rc ra wn (hq_wr upd th 0 (Wm.map Prod.fst)) (hq_wr upd tv 0 (Wm.map Prod.snd)) (((fh2 (q / L9.length)) * 16777619) ^^^ (fh2 (q % L9.length))) (((Int32.toInt64 (fv2 (q / L9.length))) * (Int32.toInt64 (fv2 (q % L9.length)))) / 100) (by first | assumption | omega)) yy_M_term lk_M_167 hA hK hN hS hPc hDc 0 8 rfl rfl rfl hl.1 rfl (Nat.le_of_ble_eq_true rfl) d_M_spread_199 ⟨by decide, by decide⟩ ⟨by decide, by decide⟩) hS (fun H locs hP hD hS => ?_)
                              have hP : va_P D hq_cl ([hq_o8 h (nI n) kd ru ya (nI sz) ta la (nI rg) (nI so) (hq_z bg) (nI nc) lfa rta (if lab9 = true then lb9 else 1000000) im9 (nI L9.length) fha fva fla (nI sp2) (nI (Wm.length + 1)) tha tva wa sa ca va tt ld pt pw (nI rc) ra wn, hq_ai tha (G 0) 120 (upd (hq_wr upd th 0 (Wm.map Prod.fst)) Wm.length (((fh2 (q / L9.length)) * 16777619) ^^^ (fh2 (q % L9.length)))), hq_ai tva (G 0) 120 (upd (hq_wr upd tv 0 (Wm.map Prod.snd)) Wm.length (Int64.toInt32 (f_M_clip (((Int32.toInt64 (fv2 (q / L9.length))) * (Int32.toInt64 (fv2 (q % L9.length)))) / 100) 99999))), hq_ai la (G 0) 20 ln, hq_ai ta (G 0) 2000 tx, hq_ai fha (G 0) 12 fh2, hq_ai fva (G 0) 12 fv2, hq_ai fla (G 0) 12 fl2, hq_ai lfa (G 0) 3 cl, hq_ai rta (G 0) 3 cr] ++ Z) H := hP
                              have hD : va_D A ([hq_o8 h (nI n) kd ru ya (nI sz) ta la (nI rg) (nI so) (hq_z bg) (nI nc) lfa rta (if lab9 = true then lb9 else 1000000) im9 (nI L9.length) fha fva fla (nI sp2) (nI (Wm.length + 1)) tha tva wa sa ca va tt ld pt pw (nI rc) ra wn, hq_ai tha (G 0) 120 (upd (hq_wr upd th 0 (Wm.map Prod.fst)) Wm.length (((fh2 (q / L9.length)) * 16777619) ^^^ (fh2 (q % L9.length)))), hq_ai tva (G 0) 120 (upd (hq_wr upd tv 0 (Wm.map Prod.snd)) Wm.length (Int64.toInt32 (f_M_clip (((Int32.toInt64 (fv2 (q / L9.length))) * (Int32.toInt64 (fv2 (q % L9.length)))) / 100) 99999))), hq_ai la (G 0) 20 ln, hq_ai ta (G 0) 2000 tx, hq_ai fha (G 0) 12 fh2, hq_ai fva (G 0) 12 fv2, hq_ai fla (G 0) 12 fl2, hq_ai lfa (G 0) 3 cl, hq_ai rta (G 0) 3 cr] ++ Z) := hD
                              refine lv_iinc (nL := 8) (k := 5) (v := nI (q + 1)) (lv' := [(4, .int (nI (q + 1))), (7, .int 1), (6, .int (nI (q % L9.length))), (5, .int (nI (q / L9.length))), (0, .ref h), (3, .int (nI c0))]) hx hb d_M_spread_202 hl rfl (nI_add q 1) (by decide) rfl (fun ls hl => ?_)
                              refine lv_goto (tgt := 61) hx hb d_M_spread_205 rfl ?_
                              have hP := va_P.part (cx := [hq_o8 h (nI n) kd ru ya (nI sz) ta la (nI rg) (nI so) (hq_z bg) (nI nc) lfa rta (if lab9 = true then lb9 else 1000000) im9 (nI L9.length) fha fva fla (nI sp2) (nI (Wm.length + 1)) tha tva wa sa ca va tt ld pt pw (nI rc) ra wn, hq_ai la (G 0) 20 ln, hq_ai ta (G 0) 2000 tx, hq_ai fha (G 0) 12 fh2, hq_ai fva (G 0) 12 fv2, hq_ai fla (G 0) 12 fl2, hq_ai lfa (G 0) 3 cl, hq_ai rta (G 0) 3 cr, hq_ai tha (G 0) 120 (upd (hq_wr upd th 0 (Wm.map Prod.fst)) Wm.length (((fh2 (q / L9.length)) * 16777619) ^^^ (fh2 (q % L9.length)))), hq_ai tva (G 0) 120 (upd (hq_wr upd tv 0 (Wm.map Prod.snd)) Wm.length (Int64.toInt32 (f_M_clip (((Int32.toInt64 (fv2 (q / L9.length))) * (Int32.toInt64 (fv2 (q % L9.length)))) / 100) 99999)))]) hP [0, 3, 4, 5, 6, 7, 8, 9, 1, 2] rfl
                              have hD := va_D.part (cx := [hq_o8 h (nI n) kd ru ya (nI sz) ta la (nI rg) (nI so) (hq_z bg) (nI nc) lfa rta (if lab9 = true then lb9 else 1000000) im9 (nI L9.length) fha fva fla (nI sp2) (nI (Wm.length + 1)) tha tva wa sa ca va tt ld pt pw (nI rc) ra wn, hq_ai la (G 0) 20 ln, hq_ai ta (G 0) 2000 tx, hq_ai fha (G 0) 12 fh2, hq_ai fva (G 0) 12 fv2, hq_ai fla (G 0) 12 fl2, hq_ai lfa (G 0) 3 cl, hq_ai rta (G 0) 3 cr, hq_ai tha (G 0) 120 (upd (hq_wr upd th 0 (Wm.map Prod.fst)) Wm.length (((fh2 (q / L9.length)) * 16777619) ^^^ (fh2 (q % L9.length)))), hq_ai tva (G 0) 120 (upd (hq_wr upd tv 0 (Wm.map Prod.snd)) Wm.length (Int64.toInt32 (f_M_clip (((Int32.toInt64 (fv2 (q / L9.length))) * (Int32.toInt64 (fv2 (q % L9.length)))) / 100) 99999)))]) hD [0, 3, 4, 5, 6, 7, 8, 9, 1, 2] (by decide) rfl
                              have e9_0 : (nI ((Wm ++ [hq_tm fh2 fv2 (q / L9.length) (q % L9.length)]).length)) = (nI (Wm.length + 1)) := by first | exact hq_wrF0 | exact hq_wrN0 | (rw [hq_clip_id (hb9 f (by omega)).1 (hb9 f (by omega)).2]; exact hq_wrF0) | (rw [hq_clipM]; exact hq_wrF0) | rfl
                              have e9_1 : (hq_wr upd th 0 ((Wm ++ [hq_tm fh2 fv2 (q / L9.length) (q % L9.length)]).map Prod.fst)) = (upd (hq_wr upd th 0 (Wm.map Prod.fst)) Wm.length (((fh2 (q / L9.length)) * 16777619) ^^^ (fh2 (q % L9.length)))) := by first | exact hq_wrF0 | exact hq_wrN0 | (rw [hq_clip_id (hb9 f (by omega)).1 (hb9 f (by omega)).2]; exact hq_wrF0) | (rw [hq_clipM]; exact hq_wrF0) | rfl
                              have e9_2 : (hq_wr upd tv 0 ((Wm ++ [hq_tm fh2 fv2 (q / L9.length) (q % L9.length)]).map Prod.snd)) = (upd (hq_wr upd tv 0 (Wm.map Prod.snd)) Wm.length (Int64.toInt32 (f_M_clip (((Int32.toInt64 (fv2 (q / L9.length))) * (Int32.toInt64 (fv2 (q % L9.length)))) / 100) 99999))) := by first | exact hq_wrF0 | exact hq_wrN0 | (rw [hq_clip_id (hb9 f (by omega)).1 (hb9 f (by omega)).2]; exact hq_wrF0) | (rw [hq_clipM]; exact hq_wrF0) | rfl
                              have hP : va_P D hq_cl ([hq_o8 h (nI n) kd ru ya (nI sz) ta la (nI rg) (nI so) (hq_z bg) (nI nc) lfa rta (if lab9 = true then lb9 else 1000000) im9 (nI L9.length) fha fva fla (nI sp2) (nI ((Wm ++ [hq_tm fh2 fv2 (q / L9.length) (q % L9.length)]).length)) tha tva wa sa ca va tt ld pt pw (nI rc) ra wn, hq_ai la (G 0) 20 ln, hq_ai ta (G 0) 2000 tx, hq_ai fha (G 0) 12 fh2, hq_ai fva (G 0) 12 fv2, hq_ai fla (G 0) 12 fl2, hq_ai lfa (G 0) 3 cl, hq_ai rta (G 0) 3 cr, hq_ai tha (G 0) 120 (hq_wr upd th 0 ((Wm ++ [hq_tm fh2 fv2 (q / L9.length) (q % L9.length)]).map Prod.fst)), hq_ai tva (G 0) 120 (hq_wr upd tv 0 ((Wm ++ [hq_tm fh2 fv2 (q / L9.length) (q % L9.length)]).map Prod.snd))] ++ Z) H := by rw [e9_0, e9_1, e9_2]; exact hP
                              have hD : va_D A ([hq_o8 h (nI n) kd ru ya (nI sz) ta la (nI rg) (nI so) (hq_z bg) (nI nc) lfa rta (if lab9 = true then lb9 else 1000000) im9 (nI L9.length) fha fva fla (nI sp2) (nI ((Wm ++ [hq_tm fh2 fv2 (q / L9.length) (q % L9.length)]).length)) tha tva wa sa ca va tt ld pt pw (nI rc) ra wn, hq_ai la (G 0) 20 ln, hq_ai ta (G 0) 2000 tx, hq_ai fha (G 0) 12 fh2, hq_ai fva (G 0) 12 fv2, hq_ai fla (G 0) 12 fl2, hq_ai lfa (G 0) 3 cl, hq_ai rta (G 0) 3 cr, hq_ai tha (G 0) 120 (hq_wr upd th 0 ((Wm ++ [hq_tm fh2 fv2 (q / L9.length) (q % L9.length)]).map Prod.fst)), hq_ai tva (G 0) 120 (hq_wr upd tv 0 ((Wm ++ [hq_tm fh2 fv2 (q / L9.length) (q % L9.length)]).map Prod.snd))] ++ Z) := by rw [e9_0, e9_1, e9_2]; exact hD
                              exact ih61 _ (by omega) (q + 1) (Wm ++ [hq_tm fh2 fv2 (q / L9.length) (q % L9.length)]) ls H locs rfl (by first | assumption | omega) (by rw [hG, hq_crM_yes (q := q) (j := L9.length * L9.length) (by omega) hi9, List.append_assoc]; rfl) (lv_sub hl [4, 5, 0] rfl) hP hD hS
              exact cut61 _ 0 Wl ls H locs rfl (by first | assumption | omega) (by rw [hq_crM_eq]) (lv_sub hl [1, 2, 0] rfl) hP hD hS
        exact cut50 _ 0 Wl ls H locs rfl (by first | assumption | omega) (by rw [hF, hq_fs_end (f := f) (j := L9.length) (by omega), List.append_nil]; rfl) (lv_sub hl [1, 0] rfl) hP hD hS
      · -- 18 not taken
        have c18 : ¬ L9.length ≤ f := fun h => c18 ((nI_leI (a := L9.length) (b := f) (by omega) (by omega)).mpr h)
        refine lv_iload_n hx hb d_M_spread_21 rfl (lv_at hl 1 rfl) ?_
        refine lv_if_eq (tgt := 48) hx hb d_M_spread_22 rfl (fun c22 => ?_) (fun c22 => ?_)
        · exact absurd c22 (by decide)
        · skip
          have hz := congrArg List.length hF
          rw [hq_fs_go (f := f) (j := L9.length) (by omega), List.length_append, List.length_cons] at hz
          refine lv_aload_n hx hb d_M_spread_25 rfl (lv_at hl 0 rfl) ?_
          refine lv_aload_n hx hb d_M_spread_26 rfl (lv_at hl 0 rfl) ?_
          refine va_get (D := D) (ci := 8) (v := .ref fha) (C := R_M) (T := F_M) (N := 34) hx hb hts uw_M hown hK hP 0 rfl rfl 16 (by decide) (hts _ fl_M_25) (fun _ h9 => h9) rfl d_M_spread_27 ?_
          refine lv_iload_n hx hb d_M_spread_30 rfl (lv_at hl 2 rfl) ?_
          refine hq_iald (j := f) hx hb hK hP 3 rfl (by omega) (by omega) d_M_spread_31 ?_
          refine lv_aload_n hx hb d_M_spread_32 rfl (lv_at hl 0 rfl) ?_
          refine va_get (D := D) (ci := 8) (v := .ref fva) (C := R_M) (T := F_M) (N := 34) hx hb hts uw_M hown hK hP 0 rfl rfl 17 (by decide) (hts _ fl_M_28) (fun _ h9 => h9) rfl d_M_spread_33 ?_
          refine lv_iload_n hx hb d_M_spread_36 rfl (lv_at hl 2 rfl) ?_
          refine hq_iald (j := f) hx hb hK hP 4 rfl (by omega) (by omega) d_M_spread_37 ?_
          refine lv_i2l (v := Int32.toInt64 (fv2 f)) hx hb d_M_spread_38 rfl ?_
          have hPc : va_P D hq_cl ([hq_o8 h (nI n) kd ru ya (nI sz) ta la (nI rg) (nI so) (hq_z bg) (nI nc) lfa rta (if lab9 = true then lb9 else 1000000) im9 (nI L9.length) fha fva fla (nI sp2) (nI (Wl.length)) tha tva wa sa ca va tt ld pt pw (nI rc) ra wn, hq_ai tha (G 0) 120 (hq_wr upd th 0 (Wl.map Prod.fst)), hq_ai tva (G 0) 120 (hq_wr upd tv 0 (Wl.map Prod.snd))] ++ ([hq_ai la (G 0) 20 ln, hq_ai ta (G 0) 2000 tx, hq_ai fha (G 0) 12 fh2, hq_ai fva (G 0) 12 fv2, hq_ai fla (G 0) 12 fl2, hq_ai lfa (G 0) 3 cl, hq_ai rta (G 0) 3 cr] ++ Z)) H := va_P.part (cx := [hq_o8 h (nI n) kd ru ya (nI sz) ta la (nI rg) (nI so) (hq_z bg) (nI nc) lfa rta (if lab9 = true then lb9 else 1000000) im9 (nI L9.length) fha fva fla (nI sp2) (nI (Wl.length)) tha tva wa sa ca va tt ld pt pw (nI rc) ra wn, hq_ai tha (G 0) 120 (hq_wr upd th 0 (Wl.map Prod.fst)), hq_ai tva (G 0) 120 (hq_wr upd tv 0 (Wl.map Prod.snd)), hq_ai la (G 0) 20 ln, hq_ai ta (G 0) 2000 tx, hq_ai fha (G 0) 12 fh2, hq_ai fva (G 0) 12 fv2, hq_ai fla (G 0) 12 fl2, hq_ai lfa (G 0) 3 cl, hq_ai rta (G 0) 3 cr]) hP [0, 8, 9, 1, 2, 3, 4, 5, 6, 7] rfl
          have hDc : va_D A ([hq_o8 h (nI n) kd ru ya (nI sz) ta la (nI rg) (nI so) (hq_z bg) (nI nc) lfa rta (if lab9 = true then lb9 else 1000000) im9 (nI L9.length) fha fva fla (nI sp2) (nI (Wl.length)) tha tva wa sa ca va tt ld pt pw (nI rc) ra wn, hq_ai tha (G 0) 120 (hq_wr upd th 0 (Wl.map Prod.fst)), hq_ai tva (G 0) 120 (hq_wr upd tv 0 (Wl.map Prod.snd))] ++ ([hq_ai la (G 0) 20 ln, hq_ai ta (G 0) 2000 tx, hq_ai fha (G 0) 12 fh2, hq_ai fva (G 0) 12 fv2, hq_ai fla (G 0) 12 fl2, hq_ai lfa (G 0) 3 cl, hq_ai rta (G 0) 3 cr] ++ Z)) := va_D.part (cx := [hq_o8 h (nI n) kd ru ya (nI sz) ta la (nI rg) (nI so) (hq_z bg) (nI nc) lfa rta (if lab9 = true then lb9 else 1000000) im9 (nI L9.length) fha fva fla (nI sp2) (nI (Wl.length)) tha tva wa sa ca va tt ld pt pw (nI rc) ra wn, hq_ai tha (G 0) 120 (hq_wr upd th 0 (Wl.map Prod.fst)), hq_ai tva (G 0) 120 (hq_wr upd tv 0 (Wl.map Prod.snd)), hq_ai la (G 0) 20 ln, hq_ai ta (G 0) 2000 tx, hq_ai fha (G 0) 12 fh2, hq_ai fva (G 0) 12 fv2, hq_ai fla (G 0) 12 fl2, hq_ai lfa (G 0) 3 cl, hq_ai rta (G 0) 3 cr]) hD [0, 8, 9, 1, 2, 3, 4, 5, 6, 7] (by decide) rfl
          refine hq_vF (hq_rV (As := [.int (fh2 f), .long (Int32.toInt64 (fv2 f))]) (rest := []) hx hb hml hown hts (c_M_term l D G A ([hq_ai la (G 0) 20 ln, hq_ai ta (G 0) 2000 tx, hq_ai fha (G 0) 12 fh2, hq_ai fva (G 0) 12 fv2, hq_ai fla (G 0) 12 fl2, hq_ai lfa (G 0) 3 cl, hq_ai rta (G 0) 3 cr] ++ Z) h n kd ru ya sz ta la rg so bg nc lfa rta (if lab9 = true then lb9 else 1000000) im9 L9.length fha fva fla sp2 Wl.length tha tva wa sa ca va tt ld pt pw rc ra wn (hq_wr upd th 0 (Wl.map Prod.fst)) (hq_wr upd tv 0 (Wl.map Prod.snd)) (fh2 f) (Int32.toInt64 (fv2 f)) (by first | assumption | omega)) yy_M_term lk_M_167 hA hK hN hS hPc hDc 0 8 rfl rfl rfl hl.1 rfl (Nat.le_of_ble_eq_true rfl) d_M_spread_39 ⟨by decide, by decide⟩ ⟨by decide, by decide⟩) hS (fun H locs hP hD hS => ?_)
          have hP : va_P D hq_cl ([hq_o8 h (nI n) kd ru ya (nI sz) ta la (nI rg) (nI so) (hq_z bg) (nI nc) lfa rta (if lab9 = true then lb9 else 1000000) im9 (nI L9.length) fha fva fla (nI sp2) (nI (Wl.length + 1)) tha tva wa sa ca va tt ld pt pw (nI rc) ra wn, hq_ai tha (G 0) 120 (upd (hq_wr upd th 0 (Wl.map Prod.fst)) Wl.length (fh2 f)), hq_ai tva (G 0) 120 (upd (hq_wr upd tv 0 (Wl.map Prod.snd)) Wl.length (Int64.toInt32 (f_M_clip (Int32.toInt64 (fv2 f)) 99999))), hq_ai la (G 0) 20 ln, hq_ai ta (G 0) 2000 tx, hq_ai fha (G 0) 12 fh2, hq_ai fva (G 0) 12 fv2, hq_ai fla (G 0) 12 fl2, hq_ai lfa (G 0) 3 cl, hq_ai rta (G 0) 3 cr] ++ Z) H := hP
          have hD : va_D A ([hq_o8 h (nI n) kd ru ya (nI sz) ta la (nI rg) (nI so) (hq_z bg) (nI nc) lfa rta (if lab9 = true then lb9 else 1000000) im9 (nI L9.length) fha fva fla (nI sp2) (nI (Wl.length + 1)) tha tva wa sa ca va tt ld pt pw (nI rc) ra wn, hq_ai tha (G 0) 120 (upd (hq_wr upd th 0 (Wl.map Prod.fst)) Wl.length (fh2 f)), hq_ai tva (G 0) 120 (upd (hq_wr upd tv 0 (Wl.map Prod.snd)) Wl.length (Int64.toInt32 (f_M_clip (Int32.toInt64 (fv2 f)) 99999))), hq_ai la (G 0) 20 ln, hq_ai ta (G 0) 2000 tx, hq_ai fha (G 0) 12 fh2, hq_ai fva (G 0) 12 fv2, hq_ai fla (G 0) 12 fl2, hq_ai lfa (G 0) 3 cl, hq_ai rta (G 0) 3 cr] ++ Z) := hD
          refine lv_iinc (nL := 8) (k := 2) (v := nI (f + 1)) (lv' := [(3, .int (nI (f + 1))), (0, .ref h), (2, .int 1)]) hx hb d_M_spread_42 hl rfl (nI_add f 1) (by decide) rfl (fun ls hl => ?_)
          refine lv_goto (tgt := 13) hx hb d_M_spread_45 rfl ?_
          have hP := va_P.part (cx := [hq_o8 h (nI n) kd ru ya (nI sz) ta la (nI rg) (nI so) (hq_z bg) (nI nc) lfa rta (if lab9 = true then lb9 else 1000000) im9 (nI L9.length) fha fva fla (nI sp2) (nI (Wl.length + 1)) tha tva wa sa ca va tt ld pt pw (nI rc) ra wn, hq_ai la (G 0) 20 ln, hq_ai ta (G 0) 2000 tx, hq_ai fha (G 0) 12 fh2, hq_ai fva (G 0) 12 fv2, hq_ai fla (G 0) 12 fl2, hq_ai lfa (G 0) 3 cl, hq_ai rta (G 0) 3 cr, hq_ai tha (G 0) 120 (upd (hq_wr upd th 0 (Wl.map Prod.fst)) Wl.length (fh2 f)), hq_ai tva (G 0) 120 (upd (hq_wr upd tv 0 (Wl.map Prod.snd)) Wl.length (Int64.toInt32 (f_M_clip (Int32.toInt64 (fv2 f)) 99999)))]) hP [0, 3, 4, 5, 6, 7, 8, 9, 1, 2] rfl
          have hD := va_D.part (cx := [hq_o8 h (nI n) kd ru ya (nI sz) ta la (nI rg) (nI so) (hq_z bg) (nI nc) lfa rta (if lab9 = true then lb9 else 1000000) im9 (nI L9.length) fha fva fla (nI sp2) (nI (Wl.length + 1)) tha tva wa sa ca va tt ld pt pw (nI rc) ra wn, hq_ai la (G 0) 20 ln, hq_ai ta (G 0) 2000 tx, hq_ai fha (G 0) 12 fh2, hq_ai fva (G 0) 12 fv2, hq_ai fla (G 0) 12 fl2, hq_ai lfa (G 0) 3 cl, hq_ai rta (G 0) 3 cr, hq_ai tha (G 0) 120 (upd (hq_wr upd th 0 (Wl.map Prod.fst)) Wl.length (fh2 f)), hq_ai tva (G 0) 120 (upd (hq_wr upd tv 0 (Wl.map Prod.snd)) Wl.length (Int64.toInt32 (f_M_clip (Int32.toInt64 (fv2 f)) 99999)))]) hD [0, 3, 4, 5, 6, 7, 8, 9, 1, 2] (by decide) rfl
          have e9_0 : (nI ((Wl ++ [(fh2 f, fv2 f)]).length)) = (nI (Wl.length + 1)) := by first | exact hq_wrF0 | exact hq_wrN0 | (rw [hq_clip_id (hb9 f (by omega)).1 (hb9 f (by omega)).2]; exact hq_wrF0) | (rw [hq_clipM]; exact hq_wrF0) | rfl
          have e9_1 : (hq_wr upd th 0 ((Wl ++ [(fh2 f, fv2 f)]).map Prod.fst)) = (upd (hq_wr upd th 0 (Wl.map Prod.fst)) Wl.length (fh2 f)) := by first | exact hq_wrF0 | exact hq_wrN0 | (rw [hq_clip_id (hb9 f (by omega)).1 (hb9 f (by omega)).2]; exact hq_wrF0) | (rw [hq_clipM]; exact hq_wrF0) | rfl
          have e9_2 : (hq_wr upd tv 0 ((Wl ++ [(fh2 f, fv2 f)]).map Prod.snd)) = (upd (hq_wr upd tv 0 (Wl.map Prod.snd)) Wl.length (Int64.toInt32 (f_M_clip (Int32.toInt64 (fv2 f)) 99999))) := by first | exact hq_wrF0 | exact hq_wrN0 | (rw [hq_clip_id (hb9 f (by omega)).1 (hb9 f (by omega)).2]; exact hq_wrF0) | (rw [hq_clipM]; exact hq_wrF0) | rfl
          have hP : va_P D hq_cl ([hq_o8 h (nI n) kd ru ya (nI sz) ta la (nI rg) (nI so) (hq_z bg) (nI nc) lfa rta (if lab9 = true then lb9 else 1000000) im9 (nI L9.length) fha fva fla (nI sp2) (nI ((Wl ++ [(fh2 f, fv2 f)]).length)) tha tva wa sa ca va tt ld pt pw (nI rc) ra wn, hq_ai la (G 0) 20 ln, hq_ai ta (G 0) 2000 tx, hq_ai fha (G 0) 12 fh2, hq_ai fva (G 0) 12 fv2, hq_ai fla (G 0) 12 fl2, hq_ai lfa (G 0) 3 cl, hq_ai rta (G 0) 3 cr, hq_ai tha (G 0) 120 (hq_wr upd th 0 ((Wl ++ [(fh2 f, fv2 f)]).map Prod.fst)), hq_ai tva (G 0) 120 (hq_wr upd tv 0 ((Wl ++ [(fh2 f, fv2 f)]).map Prod.snd))] ++ Z) H := by rw [e9_0, e9_1, e9_2]; exact hP
          have hD : va_D A ([hq_o8 h (nI n) kd ru ya (nI sz) ta la (nI rg) (nI so) (hq_z bg) (nI nc) lfa rta (if lab9 = true then lb9 else 1000000) im9 (nI L9.length) fha fva fla (nI sp2) (nI ((Wl ++ [(fh2 f, fv2 f)]).length)) tha tva wa sa ca va tt ld pt pw (nI rc) ra wn, hq_ai la (G 0) 20 ln, hq_ai ta (G 0) 2000 tx, hq_ai fha (G 0) 12 fh2, hq_ai fva (G 0) 12 fv2, hq_ai fla (G 0) 12 fl2, hq_ai lfa (G 0) 3 cl, hq_ai rta (G 0) 3 cr, hq_ai tha (G 0) 120 (hq_wr upd th 0 ((Wl ++ [(fh2 f, fv2 f)]).map Prod.fst)), hq_ai tva (G 0) 120 (hq_wr upd tv 0 ((Wl ++ [(fh2 f, fv2 f)]).map Prod.snd))] ++ Z) := by rw [e9_0, e9_1, e9_2]; exact hD
          exact ih _ (by omega) (f + 1) (Wl ++ [(fh2 f, fv2 f)]) ls H locs rfl (by first | assumption | omega) (by rw [hF, hq_fs_go (f := f) (j := L9.length) (by omega), List.append_assoc]; rfl) (lv_sub hl [1, 2, 0] rfl) hP hD hS
  have e9_0 : (nI (([] : List (Int32 × Int32)).length)) = (nI 0) := by rfl
  have e9_1 : (hq_wr upd th 0 (([] : List (Int32 × Int32)).map Prod.fst)) = th := by rfl
  have e9_2 : (hq_wr upd tv 0 (([] : List (Int32 × Int32)).map Prod.snd)) = tv := by rfl
  have hP : va_P D hq_cl ([hq_o8 h (nI n) kd ru ya (nI sz) ta la (nI rg) (nI so) (hq_z bg) (nI nc) lfa rta (if lab9 = true then lb9 else 1000000) im9 (nI L9.length) fha fva fla (nI sp2) (nI (([] : List (Int32 × Int32)).length)) tha tva wa sa ca va tt ld pt pw (nI rc) ra wn, hq_ai la (G 0) 20 ln, hq_ai ta (G 0) 2000 tx, hq_ai fha (G 0) 12 fh2, hq_ai fva (G 0) 12 fv2, hq_ai fla (G 0) 12 fl2, hq_ai lfa (G 0) 3 cl, hq_ai rta (G 0) 3 cr, hq_ai tha (G 0) 120 (hq_wr upd th 0 (([] : List (Int32 × Int32)).map Prod.fst)), hq_ai tva (G 0) 120 (hq_wr upd tv 0 (([] : List (Int32 × Int32)).map Prod.snd))] ++ Z) H := by rw [e9_0, e9_1, e9_2]; exact hP
  have hD : va_D A ([hq_o8 h (nI n) kd ru ya (nI sz) ta la (nI rg) (nI so) (hq_z bg) (nI nc) lfa rta (if lab9 = true then lb9 else 1000000) im9 (nI L9.length) fha fva fla (nI sp2) (nI (([] : List (Int32 × Int32)).length)) tha tva wa sa ca va tt ld pt pw (nI rc) ra wn, hq_ai la (G 0) 20 ln, hq_ai ta (G 0) 2000 tx, hq_ai fha (G 0) 12 fh2, hq_ai fva (G 0) 12 fv2, hq_ai fla (G 0) 12 fl2, hq_ai lfa (G 0) 3 cl, hq_ai rta (G 0) 3 cr, hq_ai tha (G 0) 120 (hq_wr upd th 0 (([] : List (Int32 × Int32)).map Prod.fst)), hq_ai tva (G 0) 120 (hq_wr upd tv 0 (([] : List (Int32 × Int32)).map Prod.snd))] ++ Z) := by rw [e9_0, e9_1, e9_2]; exact hD
  exact cut13 _ 0 ([] : List (Int32 × Int32)) ls H locs rfl (by first | assumption | omega) (rfl) (lv_sub hl [2, 1, 0] rfl) hP hD hS
