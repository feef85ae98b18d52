/-! Reading a place that may be out of range. -/
def hq_get {α : Type} (f : Nat → α) (n : Nat) (x : Int32) (d : α) : α := if x < 0 then d else if nI n ≤ x then d else f x.toNatClampNeg
section HQ9
variable {α : Type} {f : Nat → α} {n j : Nat} {x : Int32} {d : α}
theorem hq_get_neg (h : x < 0) : hq_get f n x d = d := by rw [hq_get, if_pos h]
theorem hq_get_big (h : nI n ≤ x) : hq_get f n x d = d := by
  rw [hq_get]
  by_cases h1 : x < 0
  · rw [if_pos h1]
  · rw [if_neg h1, if_pos h]
theorem hq_get_in (hj : j < n) (hn : n < 2 ^ 31) : hq_get f n (nI j) d = f j := by
  rw [hq_get, if_neg (nI_pos (by omega)), if_neg (nI_ge hj hn), nI_clamp (by omega)]
theorem hq_ix (h0 : ¬ x < 0) (h : ¬ nI n ≤ x) (hn : n < 2 ^ 31) : ∃ j : Nat, j < n ∧ x = nI j := by
  rcases pk_ix x hn with h1 | h1 | h1
  · exact absurd h1 h0
  · exact absurd h1 h
  · exact h1
theorem hq_ix' (h0 : ¬ x < 0) (h : x < nI n) (hn : n < 2 ^ 31) : ∃ j : Nat, j < n ∧ x = nI j := hq_ix h0 (Int32.not_le.mpr h) hn
end HQ9
theorem hq_has_of {n : Nat} {x : Int32} (hn : n < 2 ^ 31) (h : f_Table_has n x = true) : ∃ j : Nat, j < n ∧ x = nI j := by
  unfold f_Table_has at h
  by_cases h1 : x < 0
  · rw [if_pos h1] at h; cases h
  · by_cases h2 : nI n ≤ x
    · rw [if_neg h1, if_pos h2] at h; cases h
    · exact hq_ix h1 h2 hn
theorem hq_has_no {α : Type} {f : Nat → α} {d : α} {n : Nat} {x : Int32} (h : ¬ f_Table_has n x = true) : hq_get f n x d = d := by
  unfold f_Table_has at h
  by_cases h1 : x < 0
  · exact hq_get_neg h1
  · by_cases h2 : nI n ≤ x
    · exact hq_get_big h2
    · rw [if_neg h1, if_neg h2] at h; exact absurd rfl h
def hq_rep1 (rp : Nat → Int64) (rc : Nat) (x : Int32) : Int64 := if x = (-1) then Int32.toInt64 (nI rc) else hq_get rp rc x (-1)
theorem hq_pow_96 {n : Nat} (h : hq_pow n) : n ≤ 32 := by rcases h with rfl | rfl | rfl <;> decide
