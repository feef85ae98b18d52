/-! Crossings: both sides take and refuse the same pairs. -/
theorem hq_letM (x : Int32) : f_M_letter x = f_Crossings_isLetter x := by
  unfold f_M_letter f_Crossings_isLetter f_H_isTypeable
  by_cases h1 : x < 32
  · rw [if_pos h1, if_pos h1, if_neg (by decide)]
  · rw [if_neg h1, if_neg h1]
    by_cases h2 : 126 < x
    · rw [if_pos h2, if_pos h2, if_neg (by decide)]
    · rw [if_neg h2, if_neg h2, if_pos rfl]
section HQCX
variable {cl cr : Nat → Int32} {k : Nat} {cd : Bool} {x y : Int32}
theorem hq_cx_no (h : cd = true ∨ 3 ≤ k ∨ ¬ f_M_letter x = true ∨ ¬ f_M_letter y = true ∨ hq_hasP cl cr x y 0 k = true) : f_Crossings_add cl cr k cd x y = false ∧ f_Crossings_add_o1 cl cr k cd x y = k ∧ f_Crossings_add_o2 cl cr k cd x y = cl ∧ f_Crossings_add_o3 cl cr k cd x y = cr := by
  rw [hq_letM, hq_letM] at h
  unfold f_Crossings_add f_Crossings_add_o1 f_Crossings_add_o2 f_Crossings_add_o3
  by_cases h1 : cd = true
  · simp only [if_pos h1]; exact ⟨by first | rfl | trivial, by first | rfl | trivial, by first | rfl | trivial, by first | rfl | trivial⟩
  · by_cases h2 : 3 ≤ k
    · simp only [if_neg h1, if_pos h2]; exact ⟨by first | rfl | trivial, by first | rfl | trivial, by first | rfl | trivial, by first | rfl | trivial⟩
    · by_cases h3 : f_Crossings_isLetter x = true
      · by_cases h4 : f_Crossings_isLetter y = true
        · by_cases h5 : hq_hasP cl cr x y 0 k = true
          · simp only [if_neg h1, if_neg h2, if_pos h3, if_pos h4, if_pos h5]; exact ⟨by first | rfl | trivial, by first | rfl | trivial, by first | rfl | trivial, by first | rfl | trivial⟩
          · exact absurd h (by simp [h1, h2, h3, h4, h5])
        · simp only [if_neg h1, if_neg h2, if_pos h3, if_neg h4]; exact ⟨by first | rfl | trivial, by first | rfl | trivial, by first | rfl | trivial, by first | rfl | trivial⟩
      · simp only [if_neg h1, if_neg h2, if_neg h3]; exact ⟨by first | rfl | trivial, by first | rfl | trivial, by first | rfl | trivial, by first | rfl | trivial⟩
theorem hq_cx_yes (h1 : ¬ cd = true) (h2 : ¬ 3 ≤ k) (h3 : f_M_letter x = true) (h4 : f_M_letter y = true) (h5 : ¬ hq_hasP cl cr x y 0 k = true) : f_Crossings_add cl cr k cd x y = true ∧ f_Crossings_add_o1 cl cr k cd x y = k + 1 ∧ f_Crossings_add_o2 cl cr k cd x y = upd cl k x ∧ f_Crossings_add_o3 cl cr k cd x y = upd cr k y := by
  rw [hq_letM] at h3 h4
  unfold f_Crossings_add f_Crossings_add_o1 f_Crossings_add_o2 f_Crossings_add_o3
  rw [if_neg h1, if_neg h2, if_pos h3, if_pos h4, if_neg h5, if_neg h1, if_neg h2, if_pos h3, if_pos h4, if_neg h5, if_neg h1, if_neg h2, if_pos h3, if_pos h4, if_neg h5, if_neg h1, if_neg h2, if_pos h3, if_pos h4, if_neg h5]
  exact ⟨rfl, rfl, rfl, rfl⟩
end HQCX
