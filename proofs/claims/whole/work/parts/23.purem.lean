theorem hq_allD_ndg (t : Nat → Int32) : ∀ n i, hq_allD t i n = true ↔ hq_ndg t i n = n := by
  intro n
  induction n with
  | zero => intro i; exact ⟨fun _ => rfl, fun _ => rfl⟩
  | succ n ih =>
    intro i
    by_cases hc : hq_dig (t i) = true
    · have e1 : hq_ndg t i (n + 1) = 1 + hq_ndg t (i + 1) n := by simp only [hq_ndg, if_pos hc]
      have e2 : hq_allD t i (n + 1) = hq_allD t (i + 1) n := by simp only [hq_allD, hc, Bool.true_and]
      rw [e1, e2, ih (i + 1)]
      constructor
      · intro h; omega
      · intro h; omega
    · have hf : hq_dig (t i) = false := by revert hc; cases hq_dig (t i) <;> simp
      have e1 : hq_ndg t i (n + 1) = 0 := by simp only [hq_ndg, if_neg hc]
      have e2 : hq_allD t i (n + 1) = false := by simp only [hq_allD, hf, Bool.false_and]
      rw [e1, e2]
      constructor
      · intro h; cases h
      · intro h; omega
theorem hq_areD_ndg {t : Nat → Int32} {i j m : Nat} (hi : i < j) (h : hq_areD t i j m = true) : hq_ndg t i (j - i) = j - i := by
  simp only [hq_areD, Bool.and_eq_true] at h
  exact (hq_allD_ndg t _ _).mp h.2.2
theorem hq_ndg_areD {t : Nat → Int32} {i j m : Nat} (hi : i < j) (hm : ¬ m < j - i) (h : hq_ndg t i (j - i) = j - i) : hq_areD t i j m = true := by
  simp only [hq_areD, Bool.and_eq_true, decide_eq_true_eq]
  exact ⟨hi, by omega, (hq_allD_ndg t _ _).mpr h⟩
theorem hq_hash_finM {t : Nat → Int32} {i j b : Nat} {sd : Int32} (h0 : ¬ hq_areD t i j 9 = true) (hb : b ≤ (j - i) / 4) (he : (j - i) / 4 ≤ b) (hi : i ≤ j) : hq_hash t i j sd = f_NameHash_finished ((if (j - i) % 4 ≤ 0 then hq_hb t i sd b else hq_hb t i sd b ^^^ f_NameHash_mixed (hq_blk t (j - (j - i) % 4) ((j - i) % 4) 0)) ^^^ nI (j - i)) := by
  have e1 : (j - i) / 4 = b := by omega
  have e2 : i + 4 * b = j - (j - i) % 4 := by omega
  rw [hq_hash, if_neg h0, e1, e2, show j - (j - (j - i) % 4) = (j - i) % 4 by omega]
  by_cases h : (j - i) % 4 ≤ 0
  · rw [if_pos h, if_pos (show j ≤ j - (j - i) % 4 by omega)]
  · rw [if_neg h, if_neg (show ¬ j ≤ j - (j - i) % 4 by omega)]
