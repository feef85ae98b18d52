/-! The head of a line: both readings are the same. -/
theorem hq_ch_int {x : Int32} (h : hq_ch x) : 32 ≤ x.toInt ∧ x.toInt ≤ 126 := by
  have a1 := Int32.le_iff_toInt_le.mp h.1
  have a2 := Int32.le_iff_toInt_le.mp h.2
  have e1 : (32 : Int32).toInt = 32 := by decide
  have e2 : (126 : Int32).toInt = 126 := by decide
  omega
theorem hq_ch_imp {x : Int32} (h : hq_ch x) : (x < 49 ↔ x - 48 < 1) ∧ (53 < x ↔ 5 < x - 48) ∧ (¬ x < 49 → ¬ x - 48 ≤ 0) := by
  have hc := hq_ch_int h
  have e1 : (49 : Int32).toInt = 49 := by decide
  have e2 : (48 : Int32).toInt = 48 := by decide
  have e3 : (1 : Int32).toInt = 1 := by decide
  have e4 : (53 : Int32).toInt = 53 := by decide
  have e5 : (5 : Int32).toInt = 5 := by decide
  have e6 : (0 : Int32).toInt = 0 := by decide
  have es : (x - 48).toInt = x.toInt - 48 := by rw [Jvm.Kit.i32_sub (by omega) (by omega), e2]
  refine ⟨?_, ?_, ?_⟩
  · rw [Int32.lt_iff_toInt_lt, Int32.lt_iff_toInt_lt, es, e1, e3]; omega
  · rw [Int32.lt_iff_toInt_lt, Int32.lt_iff_toInt_lt, es, e4, e5]; omega
  · rw [Int32.lt_iff_toInt_lt, Int32.le_iff_toInt_le, es, e1, e6]; omega
theorem hq_head_eq {tx t : Nat → Int32} {o len b : Nat} (hag : ∀ q, q < len → tx (o + q) = t q) (ht : ∀ q, q < len → hq_ch (t q)) (hb : b ≤ len) :
    f_M_head tx o (o + b) = f_Line_readHead t b ∧ (f_Line_readHead t b = true → f_M_head_o1 tx o (o + b) = (if f_Line_readHead_o1 t b = true then f_Line_readHead_o2 t b else 1000000) ∧ f_M_head_o2 tx o (o + b) = f_Line_readHead_o3 t b) := by
  have eA : hq_skp tx 32 o (o + b - o) = o + hq_skp t 32 0 (b - 0) := by
    rw [show o + b - o = b - 0 by omega]
    exact hq_skp_sh hag 32 _ 0 (by omega)
  have lA := hq_skp_le t 32 (b - 0) 0
  unfold f_M_head f_M_head_o1 f_M_head_o2 f_Line_readHead f_Line_readHead_o1 f_Line_readHead_o2 f_Line_readHead_o3 f_Line_readImportance
  rw [eA]
  generalize hq_skp t 32 0 (b - 0) = A at *
  have eB : hq_fnd tx 32 (o + A) (o + b - (o + A)) = o + hq_fnd t 32 A (b - A) := by
    rw [show o + b - (o + A) = b - A by omega]
    exact hq_fnd_sh hag 32 _ _ (by omega)
  have lB := hq_fnd_le t 32 (b - A) A
  rw [eB]
  generalize hq_fnd t 32 A (b - A) = B at *
  have eC : hq_skp tx 32 (o + B) (o + b - (o + B)) = o + hq_skp t 32 B (b - B) := by
    rw [show o + b - (o + B) = b - B by omega]
    exact hq_skp_sh hag 32 _ _ (by omega)
  have lC := hq_skp_le t 32 (b - B) B
  have sC := hq_skp_at t 32 (b - B) B
  rw [eC]
  generalize hq_skp t 32 B (b - B) = C at *
  have eD : hq_fnd tx 32 (o + C) (o + b - (o + C)) = o + hq_fnd t 32 C (b - C) := by
    rw [show o + b - (o + C) = b - C by omega]
    exact hq_fnd_sh hag 32 _ _ (by omega)
  have lD := hq_fnd_le t 32 (b - C) C
  have sD := hq_fnd_spec t 32 (b - C) C
  rw [eD]
  have eE : hq_skp tx 32 (o + hq_fnd t 32 C (b - C)) (o + b - (o + hq_fnd t 32 C (b - C))) = o + hq_skp t 32 (hq_fnd t 32 C (b - C)) (b - hq_fnd t 32 C (b - C)) := by
    rw [show o + b - (o + hq_fnd t 32 C (b - C)) = b - hq_fnd t 32 C (b - C) by omega]
    exact hq_skp_sh hag 32 _ _ (by omega)
  rw [eE, hq_nuM_sh hag (show A ≤ B by omega) (by omega), show o + hq_fnd t 32 C (b - C) - (o + C) = hq_fnd t 32 C (b - C) - C by omega]
  by_cases hA : b ≤ A
  · have hA2 : o + A = o + b := by omega
    simp only [if_pos hA, if_pos hA2]
    exact ⟨by first | rfl | trivial | simp, fun _ => ⟨by first | rfl | trivial | simp, by first | rfl | trivial | simp⟩⟩
  · have hA2 : ¬ o + A = o + b := by omega
    simp only [if_neg hA, if_neg hA2]
    by_cases hN : hq_nuM t A B = 1000000
    · have hN2 := (hq_numC_bad (t := t) (show A ≤ B by omega)).mpr hN
      simp only [if_pos hN, if_pos hN2]
      refine ⟨?_, fun h => by cases h⟩
      by_cases h1 : o + b ≤ o + C
      · rw [if_pos h1]
      · rw [if_neg h1]
        by_cases h2 : hq_fnd t 32 C (b - C) - C = 1
        · rw [if_pos h2]
          by_cases h3 : tx (o + C) < 49
          · rw [if_pos h3]
          · rw [if_neg h3]
            by_cases h4 : 53 < tx (o + C)
            · rw [if_pos h4]
            · rw [if_neg h4]
        · rw [if_neg h2]
    · have hN2 : ¬ hq_numC t A B = -2147483648 := fun h => hN ((hq_numC_bad (t := t) (show A ≤ B by omega)).mp h)
      simp only [if_neg hN, if_neg hN2]
      have hv := hq_numC_ok (t := t) (show A ≤ B by omega) hN
      by_cases hC : C = b
      · have hC2 : o + b ≤ o + C := by omega
        have eD2 : hq_fnd t 32 C (b - C) = b := by omega
        have eE2 : o + hq_skp t 32 (hq_fnd t 32 C (b - C)) (b - hq_fnd t 32 C (b - C)) = o + b := by
          have := hq_skp_le t 32 (b - hq_fnd t 32 C (b - C)) (hq_fnd t 32 C (b - C))
          omega
        simp only [if_pos hC, if_pos hC2, if_pos eE2]
        exact ⟨by first | rfl | trivial | simp, fun _ => ⟨by first | exact hv | trivial | simp, by first | rfl | trivial | simp⟩⟩
      · have hC2 : ¬ o + b ≤ o + C := by omega
        have hCb : C < b := by omega
        have hC3 := sC (by omega)
        have eT := hag C (by omega)
        obtain ⟨q1, q2, q3⟩ := hq_ch_imp (ht C (by omega))
        have hg := hq_fnd_gt (c := 32) hC3 hCb
        simp only [if_neg hC, if_neg hC2, eT]
        by_cases hD : hq_fnd t 32 C (b - C) - C = 1
        · have eD3 : hq_fnd t 32 C (b - C) = C + 1 := by omega
          simp only [if_pos hD]
          simp only [eD3]
          by_cases h3 : t C < 49
          · simp only [if_pos h3, if_pos (q1.mp h3)]
            exact ⟨by first | rfl | trivial | simp, fun h => by cases h⟩
          · simp only [if_neg h3, if_neg (fun h => h3 (q1.mpr h)), if_neg (q3 h3)]
            by_cases h4 : 53 < t C
            · simp only [if_pos h4, if_pos (q2.mp h4)]
              exact ⟨by first | rfl | trivial | simp, fun h => by cases h⟩
            · simp only [if_neg h4, if_neg (fun h => h4 (q2.mpr h))]
              by_cases h5 : hq_skp t 32 (C + 1) (b - (C + 1)) = b
              · have h6 : o + hq_skp t 32 (C + 1) (b - (C + 1)) = o + b := by omega
                simp only [if_pos h5, if_pos h6]
                exact ⟨by first | rfl | trivial | simp, fun _ => ⟨by first | exact hv | trivial | simp, by first | rfl | trivial | simp⟩⟩
              · have h6 : ¬ o + hq_skp t 32 (C + 1) (b - (C + 1)) = o + b := by omega
                simp only [if_neg h5, if_neg h6]
                exact ⟨by first | rfl | trivial | simp, fun h => by cases h⟩
        · have hlt : C + 1 < hq_fnd t 32 C (b - C) := by omega
          have h7 := sD.1 (C + 1) (by omega) hlt
          have h8 : hq_skp t 32 (C + 1) (b - (C + 1)) = C + 1 := hq_skp_no (by omega) h7
          have h9 : ¬ hq_skp t 32 (C + 1) (b - (C + 1)) = b := by omega
          simp only [if_neg hD, if_neg h9]
          by_cases h3 : t C - 48 < 1
          · simp only [if_pos h3]
            exact ⟨by first | rfl | trivial | simp, fun h => by cases h⟩
          · by_cases h4 : 5 < t C - 48
            · simp only [if_neg h3, if_pos h4]
              exact ⟨by first | rfl | trivial | simp, fun h => by cases h⟩
            · simp only [if_neg h3, if_neg h4]
              exact ⟨by first | rfl | trivial | simp, fun h => by cases h⟩
