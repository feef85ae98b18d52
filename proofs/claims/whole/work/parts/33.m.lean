theorem d_M_parse_0 : decode b_M_parse 0 = .ok (.bipush (100), 2) := by decide +kernel
theorem d_M_parse_2 : decode b_M_parse 2 = .ok (.iload_n 1, 1) := by decide +kernel
theorem d_M_parse_3 : decode b_M_parse 3 = .ok (.imul, 1) := by decide +kernel
theorem d_M_parse_4 : decode b_M_parse 4 = .ok (.istore_n 2, 1) := by decide +kernel
theorem d_M_parse_5 : decode b_M_parse 5 = .ok (.iload_n 2, 1) := by decide +kernel
theorem d_M_parse_6 : decode b_M_parse 6 = .ok (.aload_n 0, 1) := by decide +kernel
theorem d_M_parse_7 : decode b_M_parse 7 = .ok (.getfield 16, 3) := by decide +kernel
theorem d_M_parse_10 : decode b_M_parse 10 = .ok (.iload_n 1, 1) := by decide +kernel
theorem d_M_parse_11 : decode b_M_parse 11 = .ok (.iaload, 1) := by decide +kernel
theorem d_M_parse_12 : decode b_M_parse 12 = .ok (.iadd, 1) := by decide +kernel
theorem d_M_parse_13 : decode b_M_parse 13 = .ok (.istore_n 3, 1) := by decide +kernel
theorem d_M_parse_14 : decode b_M_parse 14 = .ok (.aload_n 0, 1) := by decide +kernel
theorem d_M_parse_15 : decode b_M_parse 15 = .ok (.iconst 0, 1) := by decide +kernel
theorem d_M_parse_16 : decode b_M_parse 16 = .ok (.putfield 119, 3) := by decide +kernel
theorem d_M_parse_19 : decode b_M_parse 19 = .ok (.aload_n 0, 1) := by decide +kernel
theorem d_M_parse_20 : decode b_M_parse 20 = .ok (.iconst 0, 1) := by decide +kernel
theorem d_M_parse_21 : decode b_M_parse 21 = .ok (.putfield 136, 3) := by decide +kernel
theorem d_M_parse_24 : decode b_M_parse 24 = .ok (.aload_n 0, 1) := by decide +kernel
theorem d_M_parse_25 : decode b_M_parse 25 = .ok (.iload_n 2, 1) := by decide +kernel
theorem d_M_parse_26 : decode b_M_parse 26 = .ok (.iload_n 3, 1) := by decide +kernel
theorem d_M_parse_27 : decode b_M_parse 27 = .ok (.bipush (124), 2) := by decide +kernel
theorem d_M_parse_29 : decode b_M_parse 29 = .ok (.invokevirtual 112, 3) := by decide +kernel
theorem d_M_parse_32 : decode b_M_parse 32 = .ok (.istore 4, 2) := by decide +kernel
theorem d_M_parse_34 : decode b_M_parse 34 = .ok (.iload 4, 2) := by decide +kernel
theorem d_M_parse_36 : decode b_M_parse 36 = .ok (.iload_n 3, 1) := by decide +kernel
theorem d_M_parse_37 : decode b_M_parse 37 = .ok (.if_icmp .ge (17), 3) := by decide +kernel
theorem d_M_parse_40 : decode b_M_parse 40 = .ok (.aload_n 0, 1) := by decide +kernel
theorem d_M_parse_41 : decode b_M_parse 41 = .ok (.iload_n 2, 1) := by decide +kernel
theorem d_M_parse_42 : decode b_M_parse 42 = .ok (.iload 4, 2) := by decide +kernel
theorem d_M_parse_44 : decode b_M_parse 44 = .ok (.invokevirtual 139, 3) := by decide +kernel
theorem d_M_parse_47 : decode b_M_parse 47 = .ok (.ifCond .eq (7), 3) := by decide +kernel
theorem d_M_parse_50 : decode b_M_parse 50 = .ok (.iconst 1, 1) := by decide +kernel
theorem d_M_parse_51 : decode b_M_parse 51 = .ok (.goto (4), 3) := by decide +kernel
theorem d_M_parse_54 : decode b_M_parse 54 = .ok (.iconst 0, 1) := by decide +kernel
theorem d_M_parse_55 : decode b_M_parse 55 = .ok (.istore 5, 2) := by decide +kernel
theorem d_M_parse_57 : decode b_M_parse 57 = .ok (.iload 5, 2) := by decide +kernel
theorem d_M_parse_59 : decode b_M_parse 59 = .ok (.ifCond .eq (67), 3) := by decide +kernel
theorem d_M_parse_62 : decode b_M_parse 62 = .ok (.iload 4, 2) := by decide +kernel
theorem d_M_parse_64 : decode b_M_parse 64 = .ok (.iload_n 3, 1) := by decide +kernel
theorem d_M_parse_65 : decode b_M_parse 65 = .ok (.if_icmp .ge (61), 3) := by decide +kernel
theorem d_M_parse_68 : decode b_M_parse 68 = .ok (.aload_n 0, 1) := by decide +kernel
theorem d_M_parse_69 : decode b_M_parse 69 = .ok (.iload 4, 2) := by decide +kernel
theorem d_M_parse_71 : decode b_M_parse 71 = .ok (.iconst 1, 1) := by decide +kernel
theorem d_M_parse_72 : decode b_M_parse 72 = .ok (.iadd, 1) := by decide +kernel
theorem d_M_parse_73 : decode b_M_parse 73 = .ok (.iload_n 3, 1) := by decide +kernel
theorem d_M_parse_74 : decode b_M_parse 74 = .ok (.bipush (124), 2) := by decide +kernel
theorem d_M_parse_76 : decode b_M_parse 76 = .ok (.invokevirtual 112, 3) := by decide +kernel
theorem d_M_parse_79 : decode b_M_parse 79 = .ok (.istore 6, 2) := by decide +kernel
theorem d_M_parse_81 : decode b_M_parse 81 = .ok (.aload_n 0, 1) := by decide +kernel
theorem d_M_parse_82 : decode b_M_parse 82 = .ok (.dup, 1) := by decide +kernel
theorem d_M_parse_83 : decode b_M_parse 83 = .ok (.getfield 136, 3) := by decide +kernel
theorem d_M_parse_86 : decode b_M_parse 86 = .ok (.iconst 1, 1) := by decide +kernel
theorem d_M_parse_87 : decode b_M_parse 87 = .ok (.iadd, 1) := by decide +kernel
theorem d_M_parse_88 : decode b_M_parse 88 = .ok (.putfield 136, 3) := by decide +kernel
theorem d_M_parse_91 : decode b_M_parse 91 = .ok (.aload_n 0, 1) := by decide +kernel
theorem d_M_parse_92 : decode b_M_parse 92 = .ok (.getfield 136, 3) := by decide +kernel
theorem d_M_parse_95 : decode b_M_parse 95 = .ok (.iconst 4, 1) := by decide +kernel
theorem d_M_parse_96 : decode b_M_parse 96 = .ok (.if_icmp .gt (20), 3) := by decide +kernel
theorem d_M_parse_99 : decode b_M_parse 99 = .ok (.aload_n 0, 1) := by decide +kernel
theorem d_M_parse_100 : decode b_M_parse 100 = .ok (.iload 4, 2) := by decide +kernel
theorem d_M_parse_102 : decode b_M_parse 102 = .ok (.iconst 1, 1) := by decide +kernel
theorem d_M_parse_103 : decode b_M_parse 103 = .ok (.iadd, 1) := by decide +kernel
theorem d_M_parse_104 : decode b_M_parse 104 = .ok (.iload 6, 2) := by decide +kernel
theorem d_M_parse_106 : decode b_M_parse 106 = .ok (.invokevirtual 143, 3) := by decide +kernel
theorem d_M_parse_109 : decode b_M_parse 109 = .ok (.ifCond .eq (7), 3) := by decide +kernel
theorem d_M_parse_112 : decode b_M_parse 112 = .ok (.iconst 1, 1) := by decide +kernel
theorem d_M_parse_113 : decode b_M_parse 113 = .ok (.goto (4), 3) := by decide +kernel
theorem d_M_parse_116 : decode b_M_parse 116 = .ok (.iconst 0, 1) := by decide +kernel
theorem d_M_parse_117 : decode b_M_parse 117 = .ok (.istore 5, 2) := by decide +kernel
theorem d_M_parse_119 : decode b_M_parse 119 = .ok (.iload 6, 2) := by decide +kernel
theorem d_M_parse_121 : decode b_M_parse 121 = .ok (.istore 4, 2) := by decide +kernel
theorem d_M_parse_123 : decode b_M_parse 123 = .ok (.goto (-66), 3) := by decide +kernel
theorem d_M_parse_126 : decode b_M_parse 126 = .ok (.iload 5, 2) := by decide +kernel
theorem d_M_parse_128 : decode b_M_parse 128 = .ok (.ireturn, 1) := by decide +kernel
set_option maxHeartbeats 4000000 in
set_option maxRecDepth 100000 in
theorem c_M_parse (l : Launch) (D : va_G) (G : Nat → ClassId) (A : Nat → Prop) (Z : va_W) (h : Nat) (n : Nat) (kd : Int32) (ru : Int32) (ya : Nat) (sz : Nat) (ta : Nat) (la : Nat) (rg : Nat) (so : Nat) (bg : Bool) (nc : Nat) (lfa : Nat) (rta : Nat) (lb : Int32) (wo : Int32) (ft : Nat) (fha : Nat) (fva : Nat) (fla : Nat) (sp : Nat) (tc : Nat) (tha : Nat) (tva : Nat) (wa : Nat) (sa : Nat) (ca : Nat) (va : Nat) (tt : Int64) (ld : Int32) (pt : Int64) (pw : Int64) (rc : Nat) (ra : Nat) (wn : Int32) (tx : Nat → Int32) (ln : Nat → Int32) (fh : Nat → Int32) (fv : Nat → Int32) (fl : Nat → Int32) (e9 : Nat) (len : Nat) (t : Nat → Int32) (he : e9 < 20) (hln : ln e9 = nI len) (hlen : len ≤ 100) (hag : ∀ q, q < len → tx (100 * e9 + q) = t q) (ht : ∀ q, q < len → hq_ch (t q)) : hq_MI l D G A y_M_parse b_M_parse 7 .boolean 5 0 0 [.ref h, .int (nI e9)] ([hq_o8 h (nI n) kd ru ya (nI sz) ta la (nI rg) (nI so) (hq_z bg) (nI nc) lfa rta lb wo (nI ft) fha fva fla (nI sp) (nI tc) tha tva wa sa ca va tt ld pt pw (nI rc) ra wn, hq_ai la (G 0) 20 ln, hq_ai ta (G 0) 2000 tx, hq_ai fha (G 0) 12 fh, hq_ai fva (G 0) 12 fv, hq_ai fla (G 0) 12 fl] ++ Z) (fun r (u : (Int32 × Int32 × Nat) × (Nat → Int32) × (Nat → Int32) × (Nat → Int32) × Nat) => r = hq_z (hq_par t len).isSome ∧ u.2.2.2.2 ≤ 12 ∧ ∀ R9, hq_par t len = some R9 → u.1.1 = (if R9.1 = true then R9.2.1 else 1000000) ∧ u.1.2.1 = R9.2.2.1 ∧ hq_rep R9.2.2.2 u.2.1 u.2.2.1 u.2.2.2.1 u.2.2.2.2) (fun (u : (Int32 × Int32 × Nat) × (Nat → Int32) × (Nat → Int32) × (Nat → Int32) × Nat) => [hq_o8 h (nI n) kd ru ya (nI sz) ta la (nI rg) (nI so) (hq_z bg) (nI nc) lfa rta u.1.1 u.1.2.1 (nI u.2.2.2.2) fha fva fla (nI u.1.2.2) (nI tc) tha tva wa sa ca va tt ld pt pw (nI rc) ra wn, hq_ai la (G 0) 20 ln, hq_ai ta (G 0) 2000 tx, hq_ai fha (G 0) 12 u.2.1, hq_ai fva (G 0) 12 u.2.2.1, hq_ai fla (G 0) 12 u.2.2.2.1] ++ Z) := by
  refine hq_bI (by decide) (Nat.le_of_ble_eq_true rfl) (fun r u h => by rw [h.1]; exact hq_znar _) ?_
  intro p e s m args below meth c Q hx hb hml hts hown hA hK hN hret ls H locs hl hP hD hS
  have hown : s.vm.findClass "HashedLearnerModel" = some m.cls := hown
  have hl : lv_has ls 7 [(0, .ref h), (1, .int (nI e9))] := hl
  have cut57 : ∀ (kz : Nat) (gd : Bool) (b : Nat) (n1 : Nat) (lb1 : Int32) (wo1 : Int32) (fh1 : Nat → Int32) (fv1 : Nat → Int32) (fl1 : Nat → Int32) (k1 : Nat) (L1 : List (Int32 × Int32 × Int32)) (ls : Array Slot) (H : Heap) (locs : List Loc), len - b = kz → (n1 ≤ 100 - len + b) → (b ≤ len) → (k1 ≤ 12) → (hq_paI t len gd b n1 lb1 wo1 fh1 fv1 fl1 k1 L1) → lv_has ls 7 [(0, .ref h), (3, .int (nI (100 * e9 + len))), (4, .int (nI (100 * e9 + b))), (5, .int (hq_z gd))] → va_P D hq_cl ([hq_o8 h (nI n) kd ru ya (nI sz) ta la (nI rg) (nI so) (hq_z bg) (nI nc) lfa rta lb1 wo1 (nI k1) fha fva fla (nI n1) (nI tc) tha tva wa sa ca va tt ld pt pw (nI rc) ra wn, hq_ai la (G 0) 20 ln, hq_ai ta (G 0) 2000 tx, hq_ai fha (G 0) 12 fh1, hq_ai fva (G 0) 12 fv1, hq_ai fla (G 0) 12 fl1] ++ Z) H → va_D A ([hq_o8 h (nI n) kd ru ya (nI sz) ta la (nI rg) (nI so) (hq_z bg) (nI nc) lfa rta lb1 wo1 (nI k1) fha fva fla (nI n1) (nI tc) tha tva wa sa ca va tt ld pt pw (nI rc) ra wn, hq_ai la (G 0) 20 ln, hq_ai ta (G 0) 2000 tx, hq_ai fha (G 0) 12 fh1, hq_ai fva (G 0) 12 fv1, hq_ai fla (G 0) 12 fl1] ++ Z) → va_S A s.heap H locs → W p l e (hq_rm 5 0 0) s m args below meth c H locs 0 0 Q (F0 m 57 ls []) := by
    intro kz
    induction kz using Nat.strongRecOn with
    | ind kz ih =>
      intro gd b n1 lb1 wo1 fh1 fv1 fl1 k1 L1 ls H locs hkz hn5 hbl hk1 hF hl hP hD hS
      subst hkz
      refine lv_iload hx hb d_M_parse_57 (lv_at hl 3 rfl) ?_
      refine lv_if_eq (tgt := 126) hx hb d_M_parse_59 rfl (fun c59 => ?_) (fun c59 => ?_)
      · -- 59 taken
        have c59 : ¬ gd = true := by rw [hq_z0.mp c59]; decide
        refine lv_iload hx hb d_M_parse_126 (lv_at hl 3 rfl) ?_
        exact hret (hq_z gd) ((lb1, wo1, n1), fh1, fv1, fl1, k1) H locs 128 ls d_M_parse_128 (⟨by rw [(hq_paI_no hF c59).1, (hq_paI_no hF c59).2] <;> rfl, hk1, fun R9 h9 => by rw [(hq_paI_no hF c59).1] at h9; cases h9⟩) hP hD hS
      · -- 59 not taken
        have c59 : gd = true := hq_zn.mp c59
        refine lv_iload hx hb d_M_parse_62 (lv_at hl 2 rfl) ?_
        refine lv_iload_n hx hb d_M_parse_64 rfl (lv_at hl 1 rfl) ?_
        refine lv_icmp_ge (tgt := 126) hx hb d_M_parse_65 rfl (fun c65 => ?_) (fun c65 => ?_)
        · -- 65 taken
          have c65 : (100 * e9 + len) ≤ (100 * e9 + b) := (nI_leI (a := 100 * e9 + len) (b := 100 * e9 + b) (by omega) (by omega)).mp c65
          refine lv_iload hx hb d_M_parse_126 (lv_at hl 3 rfl) ?_
          exact hret (hq_z gd) ((lb1, wo1, n1), fh1, fv1, fl1, k1) H locs 128 ls d_M_parse_128 (by obtain ⟨R8, e1, e2, e3, e4⟩ := hq_paI_end hF c59 c65 hbl; exact ⟨by rw [e1, c59] <;> rfl, hk1, fun R9 h9 => by rw [e1] at h9; cases h9; exact ⟨e2, e3, e4⟩⟩) hP hD hS
        · -- 65 not taken
          have c65 : ¬ (100 * e9 + len) ≤ (100 * e9 + b) := fun h => c65 ((nI_leI (a := 100 * e9 + len) (b := 100 * e9 + b) (by omega) (by omega)).mpr h)
          refine lv_aload_n hx hb d_M_parse_68 rfl (lv_at hl 0 rfl) ?_
          refine lv_iload hx hb d_M_parse_69 (lv_at hl 2 rfl) ?_
          refine lv_iconst (v := 1) hx hb d_M_parse_71 (by decide) ?_
          refine lv_iadd hx hb d_M_parse_72 ?_
          refine hq_topi (x' := nI ((100 * e9 + b) + 1)) (nI_add (100 * e9 + b) 1) ?_
          refine lv_iload_n hx hb d_M_parse_73 rfl (lv_at hl 1 rfl) ?_
          refine lv_bipush (v := 124) hx hb d_M_parse_74 (by decide) ?_
          have hPc : va_P D hq_cl ([hq_o8 h (nI n) kd ru ya (nI sz) ta la (nI rg) (nI so) (hq_z bg) (nI nc) lfa rta lb1 wo1 (nI k1) fha fva fla (nI n1) (nI tc) tha tva wa sa ca va tt ld pt pw (nI rc) ra wn, hq_ai ta (G 0) 2000 tx] ++ ([hq_ai la (G 0) 20 ln, hq_ai fha (G 0) 12 fh1, hq_ai fva (G 0) 12 fv1, hq_ai fla (G 0) 12 fl1] ++ Z)) H := va_P.part (cx := [hq_o8 h (nI n) kd ru ya (nI sz) ta la (nI rg) (nI so) (hq_z bg) (nI nc) lfa rta lb1 wo1 (nI k1) fha fva fla (nI n1) (nI tc) tha tva wa sa ca va tt ld pt pw (nI rc) ra wn, hq_ai ta (G 0) 2000 tx, hq_ai la (G 0) 20 ln, hq_ai fha (G 0) 12 fh1, hq_ai fva (G 0) 12 fv1, hq_ai fla (G 0) 12 fl1]) hP [0, 2, 1, 3, 4, 5] rfl
          have hDc : va_D A ([hq_o8 h (nI n) kd ru ya (nI sz) ta la (nI rg) (nI so) (hq_z bg) (nI nc) lfa rta lb1 wo1 (nI k1) fha fva fla (nI n1) (nI tc) tha tva wa sa ca va tt ld pt pw (nI rc) ra wn, hq_ai ta (G 0) 2000 tx] ++ ([hq_ai la (G 0) 20 ln, hq_ai fha (G 0) 12 fh1, hq_ai fva (G 0) 12 fv1, hq_ai fla (G 0) 12 fl1] ++ Z)) := va_D.part (cx := [hq_o8 h (nI n) kd ru ya (nI sz) ta la (nI rg) (nI so) (hq_z bg) (nI nc) lfa rta lb1 wo1 (nI k1) fha fva fla (nI n1) (nI tc) tha tva wa sa ca va tt ld pt pw (nI rc) ra wn, hq_ai ta (G 0) 2000 tx, hq_ai la (G 0) 20 ln, hq_ai fha (G 0) 12 fh1, hq_ai fva (G 0) 12 fv1, hq_ai fla (G 0) 12 fl1]) hD [0, 2, 1, 3, 4, 5] (by decide) rfl
          refine hq_iF (hq_rV (As := [.int (nI ((100 * e9 + b) + 1)), .int (nI (100 * e9 + len)), .int 124]) (rest := []) hx hb hml hown hts (c_M_find l D G A ([hq_ai la (G 0) 20 ln, hq_ai fha (G 0) 12 fh1, hq_ai fva (G 0) 12 fv1, hq_ai fla (G 0) 12 fl1] ++ Z) h ([.int (nI n), .int kd, .int ru, .ref ya, .int (nI sz), .ref ta, .ref la, .int (nI rg), .int (nI so), .int (hq_z bg), .int (nI nc), .ref lfa, .ref rta, .int lb1, .int wo1, .int (nI k1), .ref fha, .ref fva, .ref fla, .int (nI n1), .int (nI tc), .ref tha, .ref tva, .ref wa, .ref sa, .ref ca, .ref va, .long tt, .int ld, .long pt, .long pw, .int (nI rc), .ref ra, .int wn]) ta tx ((100 * e9 + b) + 1) (100 * e9 + len) 124 (by first | assumption | rfl) (by first | assumption | omega) (by first | assumption | omega)) yy_M_find lk_M_112 hA hK hN hS hPc hDc 0 8 rfl rfl rfl hl.1 rfl (Nat.le_of_ble_eq_true rfl) d_M_parse_76 ⟨by decide, by decide⟩ ⟨by decide, by decide⟩) hS (fun H locs hP hD hS => ?_)
          have hP : va_P D hq_cl ([hq_o8 h (nI n) kd ru ya (nI sz) ta la (nI rg) (nI so) (hq_z bg) (nI nc) lfa rta lb1 wo1 (nI k1) fha fva fla (nI n1) (nI tc) tha tva wa sa ca va tt ld pt pw (nI rc) ra wn, hq_ai ta (G 0) 2000 tx, hq_ai la (G 0) 20 ln, hq_ai fha (G 0) 12 fh1, hq_ai fva (G 0) 12 fv1, hq_ai fla (G 0) 12 fl1] ++ Z) H := hP
          have hD : va_D A ([hq_o8 h (nI n) kd ru ya (nI sz) ta la (nI rg) (nI so) (hq_z bg) (nI nc) lfa rta lb1 wo1 (nI k1) fha fva fla (nI n1) (nI tc) tha tva wa sa ca va tt ld pt pw (nI rc) ra wn, hq_ai ta (G 0) 2000 tx, hq_ai la (G 0) 20 ln, hq_ai fha (G 0) 12 fh1, hq_ai fva (G 0) 12 fv1, hq_ai fla (G 0) 12 fl1] ++ Z) := hD
          refine hq_topi (x' := nI (100 * e9 + (hq_fnd t 124 (b + 1) (len - (b + 1))))) (congrArg nI (hq_fnd_b hag 124 (by omega))) ?_
          have hp2 := hq_fnd_le t 124 (len - (b + 1)) (b + 1)
          refine lv_istore (nL := 7) (lv' := [(6, .int (nI (100 * e9 + (hq_fnd t 124 (b + 1) (len - (b + 1)))))), (0, .ref h), (3, .int (nI (100 * e9 + len))), (4, .int (nI (100 * e9 + b))), (5, .int (hq_z gd))]) hx hb d_M_parse_79 hl (by decide) rfl (fun ls hl => ?_)
          refine lv_aload_n hx hb d_M_parse_81 rfl (lv_at hl 1 rfl) ?_
          refine lv_dup hx hb d_M_parse_82 rfl ?_
          refine va_get (D := D) (ci := 8) (v := .int (nI n1)) (C := R_M) (T := F_M) (N := 34) hx hb hts uw_M hown hK hP 0 rfl rfl 19 (by decide) (hts _ fl_M_136) (fun _ h9 => h9) rfl d_M_parse_83 ?_
          refine lv_iconst (v := 1) hx hb d_M_parse_86 (by decide) ?_
          refine lv_iadd hx hb d_M_parse_87 ?_
          refine hq_topi (x' := nI (n1 + 1)) (nI_add n1 1) ?_
          refine va_put (D := D) (ci := 8) (v := .int (nI (n1 + 1))) (ty := .int) (C := R_M) (T := F_M) (N := 34) hx hb hts uw_M t_M t_M_ok n_M hown hK hP hD hS 0 rfl rfl 19 (by decide) (hts _ fl_M_136) (fun _ h9 => h9) rfl (by decide +kernel) (rfl) (rfl) (Nat.le_of_ble_eq_true rfl) d_M_parse_88 (fun H locs hP hD hS => ?_)
          have hP : va_P D hq_cl ([hq_o8 h (nI n) kd ru ya (nI sz) ta la (nI rg) (nI so) (hq_z bg) (nI nc) lfa rta lb1 wo1 (nI k1) fha fva fla (nI (n1 + 1)) (nI tc) tha tva wa sa ca va tt ld pt pw (nI rc) ra wn, hq_ai ta (G 0) 2000 tx, hq_ai la (G 0) 20 ln, hq_ai fha (G 0) 12 fh1, hq_ai fva (G 0) 12 fv1, hq_ai fla (G 0) 12 fl1] ++ Z) H := hP
          have hD : va_D A ([hq_o8 h (nI n) kd ru ya (nI sz) ta la (nI rg) (nI so) (hq_z bg) (nI nc) lfa rta lb1 wo1 (nI k1) fha fva fla (nI (n1 + 1)) (nI tc) tha tva wa sa ca va tt ld pt pw (nI rc) ra wn, hq_ai ta (G 0) 2000 tx, hq_ai la (G 0) 20 ln, hq_ai fha (G 0) 12 fh1, hq_ai fva (G 0) 12 fv1, hq_ai fla (G 0) 12 fl1] ++ Z) := hD
          refine lv_aload_n hx hb d_M_parse_91 rfl (lv_at hl 1 rfl) ?_
          refine va_get (D := D) (ci := 8) (v := .int (nI (n1 + 1))) (C := R_M) (T := F_M) (N := 34) hx hb hts uw_M hown hK hP 0 rfl rfl 19 (by decide) (hts _ fl_M_136) (fun _ h9 => h9) rfl d_M_parse_92 ?_
          refine lv_iconst (v := 4) hx hb d_M_parse_95 (by decide) ?_
          refine lv_icmp_gt (tgt := 116) hx hb d_M_parse_96 rfl (fun c96 => ?_) (fun c96 => ?_)
          · -- 96 taken
            have c96 : 4 < (n1 + 1) := (nI_ltI (a := 4) (b := n1 + 1) (by omega) (by omega)).mp c96
            refine lv_iconst (v := 0) hx hb d_M_parse_116 (by decide) ?_
            refine lv_istore (nL := 7) (lv' := [(5, .int 0), (6, .int (nI (100 * e9 + (hq_fnd t 124 (b + 1) (len - (b + 1)))))), (0, .ref h), (3, .int (nI (100 * e9 + len))), (4, .int (nI (100 * e9 + b)))]) hx hb d_M_parse_117 hl (by decide) rfl (fun ls hl => ?_)
            refine lv_iload hx hb d_M_parse_119 (lv_at hl 1 rfl) ?_
            refine lv_istore (nL := 7) (lv' := [(4, .int (nI (100 * e9 + (hq_fnd t 124 (b + 1) (len - (b + 1)))))), (5, .int 0), (6, .int (nI (100 * e9 + (hq_fnd t 124 (b + 1) (len - (b + 1)))))), (0, .ref h), (3, .int (nI (100 * e9 + len)))]) hx hb d_M_parse_121 hl (by decide) rfl (fun ls hl => ?_)
            refine lv_goto (tgt := 57) hx hb d_M_parse_123 rfl ?_
            have hP := va_P.part (cx := [hq_o8 h (nI n) kd ru ya (nI sz) ta la (nI rg) (nI so) (hq_z bg) (nI nc) lfa rta lb1 wo1 (nI k1) fha fva fla (nI (n1 + 1)) (nI tc) tha tva wa sa ca va tt ld pt pw (nI rc) ra wn, hq_ai la (G 0) 20 ln, hq_ai ta (G 0) 2000 tx, hq_ai fha (G 0) 12 fh1, hq_ai fva (G 0) 12 fv1, hq_ai fla (G 0) 12 fl1]) hP [0, 2, 1, 3, 4, 5] rfl
            have hD := va_D.part (cx := [hq_o8 h (nI n) kd ru ya (nI sz) ta la (nI rg) (nI so) (hq_z bg) (nI nc) lfa rta lb1 wo1 (nI k1) fha fva fla (nI (n1 + 1)) (nI tc) tha tva wa sa ca va tt ld pt pw (nI rc) ra wn, hq_ai la (G 0) 20 ln, hq_ai ta (G 0) 2000 tx, hq_ai fha (G 0) 12 fh1, hq_ai fva (G 0) 12 fv1, hq_ai fla (G 0) 12 fl1]) hD [0, 2, 1, 3, 4, 5] (by decide) rfl
            exact ih _ (by omega) false (hq_fnd t 124 (b + 1) (len - (b + 1))) (n1 + 1) lb1 wo1 fh1 fv1 fl1 k1 L1 ls H locs rfl (by omega) (by first | assumption | omega) (by first | assumption | omega) (hq_paI_many hF c59 c65 c96) (lv_sub hl [3, 4, 0, 1] rfl) hP hD hS
          · -- 96 not taken
            have c96 : ¬ 4 < (n1 + 1) := fun h => c96 ((nI_ltI (a := 4) (b := n1 + 1) (by omega) (by omega)).mpr h)
            refine lv_aload_n hx hb d_M_parse_99 rfl (lv_at hl 1 rfl) ?_
            refine lv_iload hx hb d_M_parse_100 (lv_at hl 3 rfl) ?_
            refine lv_iconst (v := 1) hx hb d_M_parse_102 (by decide) ?_
            refine lv_iadd hx hb d_M_parse_103 ?_
            refine hq_topi (x' := nI ((100 * e9 + b) + 1)) (nI_add (100 * e9 + b) 1) ?_
            refine lv_iload hx hb d_M_parse_104 (lv_at hl 0 rfl) ?_
            have hPc : va_P D hq_cl ([hq_o8 h (nI n) kd ru ya (nI sz) ta la (nI rg) (nI so) (hq_z bg) (nI nc) lfa rta lb1 wo1 (nI k1) fha fva fla (nI (n1 + 1)) (nI tc) tha tva wa sa ca va tt ld pt pw (nI rc) ra wn, hq_ai ta (G 0) 2000 tx, hq_ai fha (G 0) 12 fh1, hq_ai fva (G 0) 12 fv1, hq_ai fla (G 0) 12 fl1] ++ ([hq_ai la (G 0) 20 ln] ++ Z)) H := va_P.part (cx := [hq_o8 h (nI n) kd ru ya (nI sz) ta la (nI rg) (nI so) (hq_z bg) (nI nc) lfa rta lb1 wo1 (nI k1) fha fva fla (nI (n1 + 1)) (nI tc) tha tva wa sa ca va tt ld pt pw (nI rc) ra wn, hq_ai ta (G 0) 2000 tx, hq_ai fha (G 0) 12 fh1, hq_ai fva (G 0) 12 fv1, hq_ai fla (G 0) 12 fl1, hq_ai la (G 0) 20 ln]) hP [0, 1, 3, 4, 5, 2] rfl
            have hDc : va_D A ([hq_o8 h (nI n) kd ru ya (nI sz) ta la (nI rg) (nI so) (hq_z bg) (nI nc) lfa rta lb1 wo1 (nI k1) fha fva fla (nI (n1 + 1)) (nI tc) tha tva wa sa ca va tt ld pt pw (nI rc) ra wn, hq_ai ta (G 0) 2000 tx, hq_ai fha (G 0) 12 fh1, hq_ai fva (G 0) 12 fv1, hq_ai fla (G 0) 12 fl1] ++ ([hq_ai la (G 0) 20 ln] ++ Z)) := va_D.part (cx := [hq_o8 h (nI n) kd ru ya (nI sz) ta la (nI rg) (nI so) (hq_z bg) (nI nc) lfa rta lb1 wo1 (nI k1) fha fva fla (nI (n1 + 1)) (nI tc) tha tva wa sa ca va tt ld pt pw (nI rc) ra wn, hq_ai ta (G 0) 2000 tx, hq_ai fha (G 0) 12 fh1, hq_ai fva (G 0) 12 fv1, hq_ai fla (G 0) 12 fl1, hq_ai la (G 0) 20 ln]) hD [0, 1, 3, 4, 5, 2] (by decide) rfl
            refine hq_i (hq_rV (As := [.int (nI ((100 * e9 + b) + 1)), .int (nI (100 * e9 + (hq_fnd t 124 (b + 1) (len - (b + 1)))))]) (rest := []) hx hb hml hown hts (c_M_namespace l D G A ([hq_ai la (G 0) 20 ln] ++ Z) h n kd ru ya sz ta la rg so bg nc lfa rta lb1 wo1 k1 fha fva fla (n1 + 1) tc tha tva wa sa ca va tt ld pt pw rc ra wn tx fh1 fv1 fl1 ((100 * e9 + b) + 1) (100 * e9 + (hq_fnd t 124 (b + 1) (len - (b + 1)))) L1 (by first | assumption | omega) (by first | assumption | omega) (by first | assumption | omega) (hq_paI_rep hF c59)) yy_M_namespace lk_M_143 hA hK hN hS hPc hDc 0 8 rfl rfl rfl hl.1 rfl (Nat.le_of_ble_eq_true rfl) d_M_parse_106 ⟨by decide, by decide⟩ ⟨by decide, by decide⟩) hS (fun r106 u106 H locs w106 hP hD hS => ?_)
            have hP : va_P D hq_cl ([hq_o8 h (nI n) kd ru ya (nI sz) ta la (nI rg) (nI so) (hq_z bg) (nI nc) lfa rta lb1 wo1 (nI u106.2.2.2) fha fva fla (nI (n1 + 1)) (nI tc) tha tva wa sa ca va tt ld pt pw (nI rc) ra wn, hq_ai ta (G 0) 2000 tx, hq_ai fha (G 0) 12 u106.1, hq_ai fva (G 0) 12 u106.2.1, hq_ai fla (G 0) 12 u106.2.2.1, hq_ai la (G 0) 20 ln] ++ Z) H := hP
            have hD : va_D A ([hq_o8 h (nI n) kd ru ya (nI sz) ta la (nI rg) (nI so) (hq_z bg) (nI nc) lfa rta lb1 wo1 (nI u106.2.2.2) fha fva fla (nI (n1 + 1)) (nI tc) tha tva wa sa ca va tt ld pt pw (nI rc) ra wn, hq_ai ta (G 0) 2000 tx, hq_ai fha (G 0) 12 u106.1, hq_ai fva (G 0) 12 u106.2.1, hq_ai fla (G 0) 12 u106.2.2.1, hq_ai la (G 0) 20 ln] ++ Z) := hD
            obtain ⟨fh2, fv2, fl2, k2⟩ := u106
            obtain ⟨w106, hk2, hr2⟩ := w106
            have e7 : hq_nsp tx (100 * e9 + b + 1) (100 * e9 + (hq_fnd t 124 (b + 1) (len - (b + 1)))) L1 = hq_nsp t (b + 1) (hq_fnd t 124 (b + 1) (len - (b + 1))) L1 := hq_nsp_sh (i := b + 1) hag (by omega) (by omega) L1
            rw [e7] at w106 hr2
            subst w106
            have hP : va_P D hq_cl ([hq_o8 h (nI n) kd ru ya (nI sz) ta la (nI rg) (nI so) (hq_z bg) (nI nc) lfa rta lb1 wo1 (nI k2) fha fva fla (nI (n1 + 1)) (nI tc) tha tva wa sa ca va tt ld pt pw (nI rc) ra wn, hq_ai ta (G 0) 2000 tx, hq_ai fha (G 0) 12 fh2, hq_ai fva (G 0) 12 fv2, hq_ai fla (G 0) 12 fl2, hq_ai la (G 0) 20 ln] ++ Z) H := hP
            have hD : va_D A ([hq_o8 h (nI n) kd ru ya (nI sz) ta la (nI rg) (nI so) (hq_z bg) (nI nc) lfa rta lb1 wo1 (nI k2) fha fva fla (nI (n1 + 1)) (nI tc) tha tva wa sa ca va tt ld pt pw (nI rc) ra wn, hq_ai ta (G 0) 2000 tx, hq_ai fha (G 0) 12 fh2, hq_ai fva (G 0) 12 fv2, hq_ai fla (G 0) 12 fl2, hq_ai la (G 0) 20 ln] ++ Z) := hD
            refine lv_if_eq (tgt := 116) hx hb d_M_parse_109 rfl (fun c109 => ?_) (fun c109 => ?_)
            · -- 109 taken
              have c109 : ¬ ((hq_nsp t (b + 1) (hq_fnd t 124 (b + 1) (len - (b + 1))) L1).isSome) = true := by rw [hq_z0.mp c109]; decide
              refine lv_iconst (v := 0) hx hb d_M_parse_116 (by decide) ?_
              refine lv_istore (nL := 7) (lv' := [(5, .int 0), (6, .int (nI (100 * e9 + (hq_fnd t 124 (b + 1) (len - (b + 1)))))), (0, .ref h), (3, .int (nI (100 * e9 + len))), (4, .int (nI (100 * e9 + b)))]) hx hb d_M_parse_117 hl (by decide) rfl (fun ls hl => ?_)
              refine lv_iload hx hb d_M_parse_119 (lv_at hl 1 rfl) ?_
              refine lv_istore (nL := 7) (lv' := [(4, .int (nI (100 * e9 + (hq_fnd t 124 (b + 1) (len - (b + 1)))))), (5, .int 0), (6, .int (nI (100 * e9 + (hq_fnd t 124 (b + 1) (len - (b + 1)))))), (0, .ref h), (3, .int (nI (100 * e9 + len)))]) hx hb d_M_parse_121 hl (by decide) rfl (fun ls hl => ?_)
              refine lv_goto (tgt := 57) hx hb d_M_parse_123 rfl ?_
              have hP := va_P.part (cx := [hq_o8 h (nI n) kd ru ya (nI sz) ta la (nI rg) (nI so) (hq_z bg) (nI nc) lfa rta lb1 wo1 (nI k2) fha fva fla (nI (n1 + 1)) (nI tc) tha tva wa sa ca va tt ld pt pw (nI rc) ra wn, hq_ai la (G 0) 20 ln, hq_ai ta (G 0) 2000 tx, hq_ai fha (G 0) 12 fh2, hq_ai fva (G 0) 12 fv2, hq_ai fla (G 0) 12 fl2]) hP [0, 5, 1, 2, 3, 4] rfl
              have hD := va_D.part (cx := [hq_o8 h (nI n) kd ru ya (nI sz) ta la (nI rg) (nI so) (hq_z bg) (nI nc) lfa rta lb1 wo1 (nI k2) fha fva fla (nI (n1 + 1)) (nI tc) tha tva wa sa ca va tt ld pt pw (nI rc) ra wn, hq_ai la (G 0) 20 ln, hq_ai ta (G 0) 2000 tx, hq_ai fha (G 0) 12 fh2, hq_ai fva (G 0) 12 fv2, hq_ai fla (G 0) 12 fl2]) hD [0, 5, 1, 2, 3, 4] (by decide) rfl
              exact ih _ (by omega) false (hq_fnd t 124 (b + 1) (len - (b + 1))) (n1 + 1) lb1 wo1 fh2 fv2 fl2 k2 L1 ls H locs rfl (by omega) (by first | assumption | omega) (by first | assumption | omega) (hq_paI_bad hF c59 c65 c96 c109) (lv_sub hl [3, 4, 0, 1] rfl) hP hD hS
            · -- 109 not taken
              have c109 : ((hq_nsp t (b + 1) (hq_fnd t 124 (b + 1) (len - (b + 1))) L1).isSome) = true := hq_zn.mp c109
              obtain ⟨L2, hL2⟩ := Option.isSome_iff_exists.mp c109
              refine lv_iconst (v := 1) hx hb d_M_parse_112 (by decide) ?_
              refine lv_goto (tgt := 117) hx hb d_M_parse_113 rfl ?_
              refine lv_istore (nL := 7) (lv' := [(5, .int 1), (6, .int (nI (100 * e9 + (hq_fnd t 124 (b + 1) (len - (b + 1)))))), (0, .ref h), (3, .int (nI (100 * e9 + len))), (4, .int (nI (100 * e9 + b)))]) hx hb d_M_parse_117 hl (by decide) rfl (fun ls hl => ?_)
              refine lv_iload hx hb d_M_parse_119 (lv_at hl 1 rfl) ?_
              refine lv_istore (nL := 7) (lv' := [(4, .int (nI (100 * e9 + (hq_fnd t 124 (b + 1) (len - (b + 1)))))), (5, .int 1), (6, .int (nI (100 * e9 + (hq_fnd t 124 (b + 1) (len - (b + 1)))))), (0, .ref h), (3, .int (nI (100 * e9 + len)))]) hx hb d_M_parse_121 hl (by decide) rfl (fun ls hl => ?_)
              refine lv_goto (tgt := 57) hx hb d_M_parse_123 rfl ?_
              have hP := va_P.part (cx := [hq_o8 h (nI n) kd ru ya (nI sz) ta la (nI rg) (nI so) (hq_z bg) (nI nc) lfa rta lb1 wo1 (nI k2) fha fva fla (nI (n1 + 1)) (nI tc) tha tva wa sa ca va tt ld pt pw (nI rc) ra wn, hq_ai la (G 0) 20 ln, hq_ai ta (G 0) 2000 tx, hq_ai fha (G 0) 12 fh2, hq_ai fva (G 0) 12 fv2, hq_ai fla (G 0) 12 fl2]) hP [0, 5, 1, 2, 3, 4] rfl
              have hD := va_D.part (cx := [hq_o8 h (nI n) kd ru ya (nI sz) ta la (nI rg) (nI so) (hq_z bg) (nI nc) lfa rta lb1 wo1 (nI k2) fha fva fla (nI (n1 + 1)) (nI tc) tha tva wa sa ca va tt ld pt pw (nI rc) ra wn, hq_ai la (G 0) 20 ln, hq_ai ta (G 0) 2000 tx, hq_ai fha (G 0) 12 fh2, hq_ai fva (G 0) 12 fv2, hq_ai fla (G 0) 12 fl2]) hD [0, 5, 1, 2, 3, 4] (by decide) rfl
              exact ih _ (by omega) true (hq_fnd t 124 (b + 1) (len - (b + 1))) (n1 + 1) lb1 wo1 fh2 fv2 fl2 k2 L2 ls H locs rfl (by omega) (by first | assumption | omega) (by first | assumption | omega) (hq_paI_next hF c59 c65 c96 hL2 (hr2 L2 hL2)) (lv_sub hl [3, 4, 0, 1] rfl) hP hD hS
  refine lv_bipush (v := nI 100) hx hb d_M_parse_0 (by decide) ?_
  refine lv_iload_n hx hb d_M_parse_2 rfl (lv_at hl 1 rfl) ?_
  refine lv_imul hx hb d_M_parse_3 ?_
  refine hq_topi (x' := nI (100 * e9)) (pk_mul 100 e9) ?_
  refine lv_istore_n (nL := 7) (lv' := [(2, .int (nI (100 * e9))), (0, .ref h), (1, .int (nI e9))]) hx hb d_M_parse_4 rfl hl (by decide) rfl (fun ls hl => ?_)
  refine lv_iload_n hx hb d_M_parse_5 rfl (lv_at hl 0 rfl) ?_
  refine lv_aload_n hx hb d_M_parse_6 rfl (lv_at hl 1 rfl) ?_
  refine va_get (D := D) (ci := 8) (v := .ref la) (C := R_M) (T := F_M) (N := 34) hx hb hts uw_M hown hK hP 0 rfl rfl 6 (by decide) (hts _ fl_M_16) (fun _ h9 => h9) rfl d_M_parse_7 ?_
  refine lv_iload_n hx hb d_M_parse_10 rfl (lv_at hl 2 rfl) ?_
  refine hq_iald (j := e9) hx hb hK hP 1 rfl (by omega) (by omega) d_M_parse_11 ?_
  refine hq_topi (x' := nI len) (hln) ?_
  refine lv_iadd hx hb d_M_parse_12 ?_
  refine hq_topi (x' := nI ((100 * e9) + len)) (nI_add (100 * e9) len) ?_
  refine lv_istore_n (nL := 7) (lv' := [(3, .int (nI ((100 * e9) + len))), (2, .int (nI (100 * e9))), (0, .ref h), (1, .int (nI e9))]) hx hb d_M_parse_13 rfl hl (by decide) rfl (fun ls hl => ?_)
  refine lv_aload_n hx hb d_M_parse_14 rfl (lv_at hl 2 rfl) ?_
  refine lv_iconst (v := nI 0) hx hb d_M_parse_15 (by decide) ?_
  refine va_put (D := D) (ci := 8) (v := .int (nI 0)) (ty := .int) (C := R_M) (T := F_M) (N := 34) hx hb hts uw_M t_M t_M_ok n_M hown hK hP hD hS 0 rfl rfl 15 (by decide) (hts _ fl_M_119) (fun _ h9 => h9) rfl (by decide +kernel) (rfl) (rfl) (Nat.le_of_ble_eq_true rfl) d_M_parse_16 (fun H locs hP hD hS => ?_)
  have hP : va_P D hq_cl ([hq_o8 h (nI n) kd ru ya (nI sz) ta la (nI rg) (nI so) (hq_z bg) (nI nc) lfa rta lb wo (nI 0) fha fva fla (nI sp) (nI tc) tha tva wa sa ca va tt ld pt pw (nI rc) ra wn, hq_ai la (G 0) 20 ln, hq_ai ta (G 0) 2000 tx, hq_ai fha (G 0) 12 fh, hq_ai fva (G 0) 12 fv, hq_ai fla (G 0) 12 fl] ++ Z) H := hP
  have hD : va_D A ([hq_o8 h (nI n) kd ru ya (nI sz) ta la (nI rg) (nI so) (hq_z bg) (nI nc) lfa rta lb wo (nI 0) fha fva fla (nI sp) (nI tc) tha tva wa sa ca va tt ld pt pw (nI rc) ra wn, hq_ai la (G 0) 20 ln, hq_ai ta (G 0) 2000 tx, hq_ai fha (G 0) 12 fh, hq_ai fva (G 0) 12 fv, hq_ai fla (G 0) 12 fl] ++ Z) := hD
  refine lv_aload_n hx hb d_M_parse_19 rfl (lv_at hl 2 rfl) ?_
  refine lv_iconst (v := nI 0) hx hb d_M_parse_20 (by decide) ?_
  refine va_put (D := D) (ci := 8) (v := .int (nI 0)) (ty := .int) (C := R_M) (T := F_M) (N := 34) hx hb hts uw_M t_M t_M_ok n_M hown hK hP hD hS 0 rfl rfl 19 (by decide) (hts _ fl_M_136) (fun _ h9 => h9) rfl (by decide +kernel) (rfl) (rfl) (Nat.le_of_ble_eq_true rfl) d_M_parse_21 (fun H locs hP hD hS => ?_)
  have hP : va_P D hq_cl ([hq_o8 h (nI n) kd ru ya (nI sz) ta la (nI rg) (nI so) (hq_z bg) (nI nc) lfa rta lb wo (nI 0) fha fva fla (nI 0) (nI tc) tha tva wa sa ca va tt ld pt pw (nI rc) ra wn, hq_ai la (G 0) 20 ln, hq_ai ta (G 0) 2000 tx, hq_ai fha (G 0) 12 fh, hq_ai fva (G 0) 12 fv, hq_ai fla (G 0) 12 fl] ++ Z) H := hP
  have hD : va_D A ([hq_o8 h (nI n) kd ru ya (nI sz) ta la (nI rg) (nI so) (hq_z bg) (nI nc) lfa rta lb wo (nI 0) fha fva fla (nI 0) (nI tc) tha tva wa sa ca va tt ld pt pw (nI rc) ra wn, hq_ai la (G 0) 20 ln, hq_ai ta (G 0) 2000 tx, hq_ai fha (G 0) 12 fh, hq_ai fva (G 0) 12 fv, hq_ai fla (G 0) 12 fl] ++ Z) := hD
  refine lv_aload_n hx hb d_M_parse_24 rfl (lv_at hl 2 rfl) ?_
  refine lv_iload_n hx hb d_M_parse_25 rfl (lv_at hl 1 rfl) ?_
  refine lv_iload_n hx hb d_M_parse_26 rfl (lv_at hl 0 rfl) ?_
  refine lv_bipush (v := 124) hx hb d_M_parse_27 (by decide) ?_
  have hPc : va_P D hq_cl ([hq_o8 h (nI n) kd ru ya (nI sz) ta la (nI rg) (nI so) (hq_z bg) (nI nc) lfa rta lb wo (nI 0) fha fva fla (nI 0) (nI tc) tha tva wa sa ca va tt ld pt pw (nI rc) ra wn, hq_ai ta (G 0) 2000 tx] ++ ([hq_ai la (G 0) 20 ln, hq_ai fha (G 0) 12 fh, hq_ai fva (G 0) 12 fv, hq_ai fla (G 0) 12 fl] ++ Z)) H := va_P.part (cx := [hq_o8 h (nI n) kd ru ya (nI sz) ta la (nI rg) (nI so) (hq_z bg) (nI nc) lfa rta lb wo (nI 0) fha fva fla (nI 0) (nI tc) tha tva wa sa ca va tt ld pt pw (nI rc) ra wn, hq_ai ta (G 0) 2000 tx, hq_ai la (G 0) 20 ln, hq_ai fha (G 0) 12 fh, hq_ai fva (G 0) 12 fv, hq_ai fla (G 0) 12 fl]) hP [0, 2, 1, 3, 4, 5] rfl
  have hDc : va_D A ([hq_o8 h (nI n) kd ru ya (nI sz) ta la (nI rg) (nI so) (hq_z bg) (nI nc) lfa rta lb wo (nI 0) fha fva fla (nI 0) (nI tc) tha tva wa sa ca va tt ld pt pw (nI rc) ra wn, hq_ai ta (G 0) 2000 tx] ++ ([hq_ai la (G 0) 20 ln, hq_ai fha (G 0) 12 fh, hq_ai fva (G 0) 12 fv, hq_ai fla (G 0) 12 fl] ++ Z)) := va_D.part (cx := [hq_o8 h (nI n) kd ru ya (nI sz) ta la (nI rg) (nI so) (hq_z bg) (nI nc) lfa rta lb wo (nI 0) fha fva fla (nI 0) (nI tc) tha tva wa sa ca va tt ld pt pw (nI rc) ra wn, hq_ai ta (G 0) 2000 tx, hq_ai la (G 0) 20 ln, hq_ai fha (G 0) 12 fh, hq_ai fva (G 0) 12 fv, hq_ai fla (G 0) 12 fl]) hD [0, 2, 1, 3, 4, 5] (by decide) rfl
  refine hq_iF (hq_rV (As := [.int (nI (100 * e9)), .int (nI ((100 * e9) + len)), .int 124]) (rest := []) hx hb hml hown hts (c_M_find l D G A ([hq_ai la (G 0) 20 ln, hq_ai fha (G 0) 12 fh, hq_ai fva (G 0) 12 fv, hq_ai fla (G 0) 12 fl] ++ Z) h ([.int (nI n), .int kd, .int ru, .ref ya, .int (nI sz), .ref ta, .ref la, .int (nI rg), .int (nI so), .int (hq_z bg), .int (nI nc), .ref lfa, .ref rta, .int lb, .int wo, .int (nI 0), .ref fha, .ref fva, .ref fla, .int (nI 0), .int (nI tc), .ref tha, .ref tva, .ref wa, .ref sa, .ref ca, .ref va, .long tt, .int ld, .long pt, .long pw, .int (nI rc), .ref ra, .int wn]) ta tx (100 * e9) ((100 * e9) + len) 124 (by first | assumption | rfl) (by first | assumption | omega) (by first | assumption | omega)) yy_M_find lk_M_112 hA hK hN hS hPc hDc 0 8 rfl rfl rfl hl.1 rfl (Nat.le_of_ble_eq_true rfl) d_M_parse_29 ⟨by decide, by decide⟩ ⟨by decide, by decide⟩) hS (fun H locs hP hD hS => ?_)
  have hP : va_P D hq_cl ([hq_o8 h (nI n) kd ru ya (nI sz) ta la (nI rg) (nI so) (hq_z bg) (nI nc) lfa rta lb wo (nI 0) fha fva fla (nI 0) (nI tc) tha tva wa sa ca va tt ld pt pw (nI rc) ra wn, hq_ai ta (G 0) 2000 tx, hq_ai la (G 0) 20 ln, hq_ai fha (G 0) 12 fh, hq_ai fva (G 0) 12 fv, hq_ai fla (G 0) 12 fl] ++ Z) H := hP
  have hD : va_D A ([hq_o8 h (nI n) kd ru ya (nI sz) ta la (nI rg) (nI so) (hq_z bg) (nI nc) lfa rta lb wo (nI 0) fha fva fla (nI 0) (nI tc) tha tva wa sa ca va tt ld pt pw (nI rc) ra wn, hq_ai ta (G 0) 2000 tx, hq_ai la (G 0) 20 ln, hq_ai fha (G 0) 12 fh, hq_ai fva (G 0) 12 fv, hq_ai fla (G 0) 12 fl] ++ Z) := hD
  refine hq_topi (x' := nI (100 * e9 + (hq_fnd t 124 0 (len - 0)))) (congrArg nI (hq_fnd_o hag 124)) ?_
  have hp := hq_fnd_le t 124 (len - 0) 0
  refine lv_istore (nL := 7) (lv' := [(4, .int (nI (100 * e9 + (hq_fnd t 124 0 (len - 0))))), (3, .int (nI ((100 * e9) + len))), (2, .int (nI (100 * e9))), (0, .ref h), (1, .int (nI e9))]) hx hb d_M_parse_32 hl (by decide) rfl (fun ls hl => ?_)
  refine lv_iload hx hb d_M_parse_34 (lv_at hl 0 rfl) ?_
  refine lv_iload_n hx hb d_M_parse_36 rfl (lv_at hl 1 rfl) ?_
  refine lv_icmp_ge (tgt := 54) hx hb d_M_parse_37 rfl (fun c37 => ?_) (fun c37 => ?_)
  · -- 37 taken
    have c37 : ((100 * e9) + len) ≤ (100 * e9 + (hq_fnd t 124 0 (len - 0))) := (nI_leI (a := (100 * e9) + len) (b := 100 * e9 + (hq_fnd t 124 0 (len - 0))) (by omega) (by omega)).mp c37
    refine lv_iconst (v := 0) hx hb d_M_parse_54 (by decide) ?_
    refine lv_istore (nL := 7) (lv' := [(5, .int 0), (4, .int (nI (100 * e9 + (hq_fnd t 124 0 (len - 0))))), (3, .int (nI ((100 * e9) + len))), (2, .int (nI (100 * e9))), (0, .ref h), (1, .int (nI e9))]) hx hb d_M_parse_55 hl (by decide) rfl (fun ls hl => ?_)
    have hP := va_P.part (cx := [hq_o8 h (nI n) kd ru ya (nI sz) ta la (nI rg) (nI so) (hq_z bg) (nI nc) lfa rta lb wo (nI 0) fha fva fla (nI 0) (nI tc) tha tva wa sa ca va tt ld pt pw (nI rc) ra wn, hq_ai la (G 0) 20 ln, hq_ai ta (G 0) 2000 tx, hq_ai fha (G 0) 12 fh, hq_ai fva (G 0) 12 fv, hq_ai fla (G 0) 12 fl]) hP [0, 2, 1, 3, 4, 5] rfl
    have hD := va_D.part (cx := [hq_o8 h (nI n) kd ru ya (nI sz) ta la (nI rg) (nI so) (hq_z bg) (nI nc) lfa rta lb wo (nI 0) fha fva fla (nI 0) (nI tc) tha tva wa sa ca va tt ld pt pw (nI rc) ra wn, hq_ai la (G 0) 20 ln, hq_ai ta (G 0) 2000 tx, hq_ai fha (G 0) 12 fh, hq_ai fva (G 0) 12 fv, hq_ai fla (G 0) 12 fl]) hD [0, 2, 1, 3, 4, 5] (by decide) rfl
    exact cut57 _ false (hq_fnd t 124 0 (len - 0)) 0 lb wo fh fv fl 0 ([]) ls H locs rfl (by omega) (by first | assumption | omega) (by omega) (hq_paI_a c37) (lv_sub hl [4, 2, 1, 0] rfl) hP hD hS
  · -- 37 not taken
    have c37 : ¬ ((100 * e9) + len) ≤ (100 * e9 + (hq_fnd t 124 0 (len - 0))) := fun h => c37 ((nI_leI (a := (100 * e9) + len) (b := 100 * e9 + (hq_fnd t 124 0 (len - 0))) (by omega) (by omega)).mpr h)
    refine lv_aload_n hx hb d_M_parse_40 rfl (lv_at hl 3 rfl) ?_
    refine lv_iload_n hx hb d_M_parse_41 rfl (lv_at hl 2 rfl) ?_
    refine lv_iload hx hb d_M_parse_42 (lv_at hl 0 rfl) ?_
    have hPc : va_P D hq_cl ([hq_o8 h (nI n) kd ru ya (nI sz) ta la (nI rg) (nI so) (hq_z bg) (nI nc) lfa rta lb wo (nI 0) fha fva fla (nI 0) (nI tc) tha tva wa sa ca va tt ld pt pw (nI rc) ra wn, hq_ai ta (G 0) 2000 tx] ++ ([hq_ai la (G 0) 20 ln, hq_ai fha (G 0) 12 fh, hq_ai fva (G 0) 12 fv, hq_ai fla (G 0) 12 fl] ++ Z)) H := hP
    have hDc : va_D A ([hq_o8 h (nI n) kd ru ya (nI sz) ta la (nI rg) (nI so) (hq_z bg) (nI nc) lfa rta lb wo (nI 0) fha fva fla (nI 0) (nI tc) tha tva wa sa ca va tt ld pt pw (nI rc) ra wn, hq_ai ta (G 0) 2000 tx] ++ ([hq_ai la (G 0) 20 ln, hq_ai fha (G 0) 12 fh, hq_ai fva (G 0) 12 fv, hq_ai fla (G 0) 12 fl] ++ Z)) := hD
    refine hq_iF (hq_rV (As := [.int (nI (100 * e9)), .int (nI (100 * e9 + (hq_fnd t 124 0 (len - 0))))]) (rest := []) hx hb hml hown hts (c_M_head l D G A ([hq_ai la (G 0) 20 ln, hq_ai fha (G 0) 12 fh, hq_ai fva (G 0) 12 fv, hq_ai fla (G 0) 12 fl] ++ Z) h n kd ru ya sz ta la rg so bg nc lfa rta lb wo 0 fha fva fla 0 tc tha tva wa sa ca va tt ld pt pw rc ra wn tx (100 * e9) (100 * e9 + (hq_fnd t 124 0 (len - 0))) (by first | assumption | omega) (by first | assumption | omega)) yy_M_head lk_M_139 hA hK hN hS hPc hDc 0 8 rfl rfl rfl hl.1 rfl (Nat.le_of_ble_eq_true rfl) d_M_parse_44 ⟨by decide, by decide⟩ ⟨by decide, by decide⟩) hS (fun H locs hP hD hS => ?_)
    have hP : va_P D hq_cl ([hq_o8 h (nI n) kd ru ya (nI sz) ta la (nI rg) (nI so) (hq_z bg) (nI nc) lfa rta (f_M_head_o1 tx (100 * e9) (100 * e9 + (hq_fnd t 124 0 (len - 0)))) (f_M_head_o2 tx (100 * e9) (100 * e9 + (hq_fnd t 124 0 (len - 0)))) (nI 0) fha fva fla (nI 0) (nI tc) tha tva wa sa ca va tt ld pt pw (nI rc) ra wn, hq_ai ta (G 0) 2000 tx, hq_ai la (G 0) 20 ln, hq_ai fha (G 0) 12 fh, hq_ai fva (G 0) 12 fv, hq_ai fla (G 0) 12 fl] ++ Z) H := hP
    have hD : va_D A ([hq_o8 h (nI n) kd ru ya (nI sz) ta la (nI rg) (nI so) (hq_z bg) (nI nc) lfa rta (f_M_head_o1 tx (100 * e9) (100 * e9 + (hq_fnd t 124 0 (len - 0)))) (f_M_head_o2 tx (100 * e9) (100 * e9 + (hq_fnd t 124 0 (len - 0)))) (nI 0) fha fva fla (nI 0) (nI tc) tha tva wa sa ca va tt ld pt pw (nI rc) ra wn, hq_ai ta (G 0) 2000 tx, hq_ai la (G 0) 20 ln, hq_ai fha (G 0) 12 fh, hq_ai fva (G 0) 12 fv, hq_ai fla (G 0) 12 fl] ++ Z) := hD
    refine lv_if_eq (tgt := 54) hx hb d_M_parse_47 rfl (fun c47 => ?_) (fun c47 => ?_)
    · -- 47 taken
      have c47 : ¬ (f_M_head tx (100 * e9) (100 * e9 + (hq_fnd t 124 0 (len - 0)))) = true := by rw [hq_z0.mp c47]; decide
      refine lv_iconst (v := 0) hx hb d_M_parse_54 (by decide) ?_
      refine lv_istore (nL := 7) (lv' := [(5, .int 0), (4, .int (nI (100 * e9 + (hq_fnd t 124 0 (len - 0))))), (3, .int (nI ((100 * e9) + len))), (2, .int (nI (100 * e9))), (0, .ref h), (1, .int (nI e9))]) hx hb d_M_parse_55 hl (by decide) rfl (fun ls hl => ?_)
      have hP := va_P.part (cx := [hq_o8 h (nI n) kd ru ya (nI sz) ta la (nI rg) (nI so) (hq_z bg) (nI nc) lfa rta (f_M_head_o1 tx (100 * e9) (100 * e9 + (hq_fnd t 124 0 (len - 0)))) (f_M_head_o2 tx (100 * e9) (100 * e9 + (hq_fnd t 124 0 (len - 0)))) (nI 0) fha fva fla (nI 0) (nI tc) tha tva wa sa ca va tt ld pt pw (nI rc) ra wn, hq_ai la (G 0) 20 ln, hq_ai ta (G 0) 2000 tx, hq_ai fha (G 0) 12 fh, hq_ai fva (G 0) 12 fv, hq_ai fla (G 0) 12 fl]) hP [0, 2, 1, 3, 4, 5] rfl
      have hD := va_D.part (cx := [hq_o8 h (nI n) kd ru ya (nI sz) ta la (nI rg) (nI so) (hq_z bg) (nI nc) lfa rta (f_M_head_o1 tx (100 * e9) (100 * e9 + (hq_fnd t 124 0 (len - 0)))) (f_M_head_o2 tx (100 * e9) (100 * e9 + (hq_fnd t 124 0 (len - 0)))) (nI 0) fha fva fla (nI 0) (nI tc) tha tva wa sa ca va tt ld pt pw (nI rc) ra wn, hq_ai la (G 0) 20 ln, hq_ai ta (G 0) 2000 tx, hq_ai fha (G 0) 12 fh, hq_ai fva (G 0) 12 fv, hq_ai fla (G 0) 12 fl]) hD [0, 2, 1, 3, 4, 5] (by decide) rfl
      exact cut57 _ false (hq_fnd t 124 0 (len - 0)) 0 (f_M_head_o1 tx (100 * e9) (100 * e9 + (hq_fnd t 124 0 (len - 0)))) (f_M_head_o2 tx (100 * e9) (100 * e9 + (hq_fnd t 124 0 (len - 0)))) fh fv fl 0 ([]) ls H locs rfl (by first | assumption | omega) (by first | assumption | omega) (by first | assumption | omega) (hq_paI_b hag ht c47) (lv_sub hl [4, 2, 1, 0] rfl) hP hD hS
    · -- 47 not taken
      have c47 : (f_M_head tx (100 * e9) (100 * e9 + (hq_fnd t 124 0 (len - 0)))) = true := hq_zn.mp c47
      refine lv_iconst (v := 1) hx hb d_M_parse_50 (by decide) ?_
      refine lv_goto (tgt := 55) hx hb d_M_parse_51 rfl ?_
      refine lv_istore (nL := 7) (lv' := [(5, .int 1), (4, .int (nI (100 * e9 + (hq_fnd t 124 0 (len - 0))))), (3, .int (nI ((100 * e9) + len))), (2, .int (nI (100 * e9))), (0, .ref h), (1, .int (nI e9))]) hx hb d_M_parse_55 hl (by decide) rfl (fun ls hl => ?_)
      have hP := va_P.part (cx := [hq_o8 h (nI n) kd ru ya (nI sz) ta la (nI rg) (nI so) (hq_z bg) (nI nc) lfa rta (f_M_head_o1 tx (100 * e9) (100 * e9 + (hq_fnd t 124 0 (len - 0)))) (f_M_head_o2 tx (100 * e9) (100 * e9 + (hq_fnd t 124 0 (len - 0)))) (nI 0) fha fva fla (nI 0) (nI tc) tha tva wa sa ca va tt ld pt pw (nI rc) ra wn, hq_ai la (G 0) 20 ln, hq_ai ta (G 0) 2000 tx, hq_ai fha (G 0) 12 fh, hq_ai fva (G 0) 12 fv, hq_ai fla (G 0) 12 fl]) hP [0, 2, 1, 3, 4, 5] rfl
      have hD := va_D.part (cx := [hq_o8 h (nI n) kd ru ya (nI sz) ta la (nI rg) (nI so) (hq_z bg) (nI nc) lfa rta (f_M_head_o1 tx (100 * e9) (100 * e9 + (hq_fnd t 124 0 (len - 0)))) (f_M_head_o2 tx (100 * e9) (100 * e9 + (hq_fnd t 124 0 (len - 0)))) (nI 0) fha fva fla (nI 0) (nI tc) tha tva wa sa ca va tt ld pt pw (nI rc) ra wn, hq_ai la (G 0) 20 ln, hq_ai ta (G 0) 2000 tx, hq_ai fha (G 0) 12 fh, hq_ai fva (G 0) 12 fv, hq_ai fla (G 0) 12 fl]) hD [0, 2, 1, 3, 4, 5] (by decide) rfl
      exact cut57 _ true (hq_fnd t 124 0 (len - 0)) 0 (f_M_head_o1 tx (100 * e9) (100 * e9 + (hq_fnd t 124 0 (len - 0)))) (f_M_head_o2 tx (100 * e9) (100 * e9 + (hq_fnd t 124 0 (len - 0)))) fh fv fl 0 ([]) ls H locs rfl (by first | assumption | omega) (by first | assumption | omega) (by first | assumption | omega) (hq_paI_c hag ht c37 c47) (lv_sub hl [4, 2, 1, 0] rfl) hP hD hS
