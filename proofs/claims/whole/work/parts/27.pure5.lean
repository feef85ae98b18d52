/-! Numbers: the class's reading and the reference's are the same. -/
theorem hq_fnd_spec (t : Nat → Int32) (c : Int32) : ∀ n i, (∀ k, i ≤ k → k < hq_fnd t c i n → ¬ t k = c) ∧ (hq_fnd t c i n < i + n → t (hq_fnd t c i n) = c) := by
  intro n
  induction n with
  | zero => intro i; exact ⟨fun k h1 h2 => absurd h2 (by simp only [hq_fnd]; omega), fun h => absurd h (by simp only [hq_fnd]; omega)⟩
  | succ n ih =>
    intro i
    by_cases hc : t i = c
    · have e : hq_fnd t c i (n + 1) = i := by simp only [hq_fnd, if_pos hc]
      rw [e]
      exact ⟨fun k h1 h2 => absurd h2 (by omega), fun _ => hc⟩
    · have e : hq_fnd t c i (n + 1) = hq_fnd t c (i + 1) n := by simp only [hq_fnd, if_neg hc]
      rw [e]
      obtain ⟨a, b⟩ := ih (i + 1)
      refine ⟨fun k h1 h2 => ?_, fun h => b (by omega)⟩
      by_cases hk : k = i
      · rw [hk]; exact hc
      · exact a k (by omega) h2
theorem hq_fnd_uniq {t : Nat → Int32} {c : Int32} {n i p : Nat} (h0 : i ≤ p) (h1 : p ≤ i + n) (h2 : ∀ k, i ≤ k → k < p → ¬ t k = c) (h3 : p < i + n → t p = c) : hq_fnd t c i n = p := by
  obtain ⟨a, b⟩ := hq_fnd_spec t c n i
  obtain ⟨l1, l2⟩ := hq_fnd_le t c n i
  rcases Nat.lt_trichotomy (hq_fnd t c i n) p with h | h | h
  · exact absurd (b (by omega)) (h2 _ l1 h)
  · exact h
  · exact absurd (h3 (by omega)) (a p h0 h)
theorem hq_ndg_spec (t : Nat → Int32) : ∀ n i, (∀ k, k < hq_ndg t i n → hq_dig (t (i + k)) = true) ∧ (hq_ndg t i n < n → ¬ hq_dig (t (i + hq_ndg t i n)) = true) := by
  intro n
  induction n with
  | zero => intro i; exact ⟨fun k h => absurd h (by simp only [hq_ndg]; omega), fun h => absurd h (by simp only [hq_ndg]; omega)⟩
  | succ n ih =>
    intro i
    by_cases hc : hq_dig (t i) = true
    · have e : hq_ndg t i (n + 1) = 1 + hq_ndg t (i + 1) n := by simp only [hq_ndg, if_pos hc]
      rw [e]
      obtain ⟨a, b⟩ := ih (i + 1)
      refine ⟨fun k h => ?_, fun h => ?_⟩
      · cases k with
        | zero => exact hc
        | succ k => rw [show i + (k + 1) = i + 1 + k by omega]; exact a k (by omega)
      · rw [show i + (1 + hq_ndg t (i + 1) n) = i + 1 + hq_ndg t (i + 1) n by omega]; exact b (by omega)
    · have e : hq_ndg t i (n + 1) = 0 := by simp only [hq_ndg, if_neg hc]
      rw [e]
      exact ⟨fun k h => absurd h (by omega), fun _ => hc⟩
theorem hq_ndg_uniq {t : Nat → Int32} {n i p : Nat} (h1 : p ≤ n) (h2 : ∀ k, k < p → hq_dig (t (i + k)) = true) (h3 : p < n → ¬ hq_dig (t (i + p)) = true) : hq_ndg t i n = p := by
  obtain ⟨a, b⟩ := hq_ndg_spec t n i
  have l1 := hq_ndg_le t n i
  rcases Nat.lt_trichotomy (hq_ndg t i n) p with h | h | h
  · exact absurd (h2 _ h) (b (by omega))
  · exact h
  · exact absurd (a p h) (h3 (by omega))
theorem hq_dig_46 {x : Int32} (h : x = 46) : ¬ hq_dig x = true := by rw [h]; decide
theorem hq_dig_ne {x : Int32} (h : hq_dig x = true) : ¬ x = 46 := fun e => hq_dig_46 e h
theorem hq_allD_k {t : Nat → Int32} : ∀ n i, hq_allD t i n = true → ∀ k, k < n → hq_dig (t (i + k)) = true := by
  intro n
  induction n with
  | zero => intro i _ k h; exact absurd h (by omega)
  | succ n ih =>
    intro i h k hk
    simp only [hq_allD, Bool.and_eq_true] at h
    cases k with
    | zero => exact h.1
    | succ k => rw [show i + (k + 1) = i + 1 + k by omega]; exact ih (i + 1) h.2 k (by omega)
/-- digits up to the point: both ways of finding it -/
theorem hq_point {t : Nat → Int32} {s j : Nat} (hs : s ≤ j) (h : hq_areD t s (hq_fnd t 46 s (j - s)) 3 = true) : hq_fnd t 46 s (j - s) = s + hq_ndg t s (j - s) ∧ 1 ≤ hq_ndg t s (j - s) ∧ hq_ndg t s (j - s) ≤ 3 ∧ (s + hq_ndg t s (j - s) < j → t (s + hq_ndg t s (j - s)) = 46) := by
  obtain ⟨l1, l2⟩ := hq_fnd_le t 46 (j - s) s
  obtain ⟨a, b⟩ := hq_fnd_spec t 46 (j - s) s
  simp only [hq_areD, Bool.and_eq_true, decide_eq_true_eq] at h
  obtain ⟨h1, h2, h3⟩ := h
  have e : hq_ndg t s (j - s) = hq_fnd t 46 s (j - s) - s := hq_ndg_uniq (by omega) (hq_allD_k _ _ h3) (fun hlt => by
    rw [show s + (hq_fnd t 46 s (j - s) - s) = hq_fnd t 46 s (j - s) by omega]
    exact hq_dig_46 (b (by omega)))
  refine ⟨by omega, by omega, by omega, fun hlt => ?_⟩
  rw [show s + hq_ndg t s (j - s) = hq_fnd t 46 s (j - s) by omega]
  exact b (by omega)
theorem hq_point' {t : Nat → Int32} {s j : Nat} (hs : s ≤ j) (h1 : 1 ≤ hq_ndg t s (j - s)) (h2 : hq_ndg t s (j - s) ≤ 3) (h3 : s + hq_ndg t s (j - s) < j → t (s + hq_ndg t s (j - s)) = 46) : hq_areD t s (hq_fnd t 46 s (j - s)) 3 = true := by
  have l := hq_ndg_le t (j - s) s
  obtain ⟨a, b⟩ := hq_ndg_spec t (j - s) s
  have e : hq_fnd t 46 s (j - s) = s + hq_ndg t s (j - s) := hq_fnd_uniq (by omega) (by omega) (fun k k1 k2 => by
    have := a (k - s) (by omega)
    rw [show s + (k - s) = k by omega] at this
    exact hq_dig_ne this) (fun h => h3 (by omega))
  rw [e]
  simp only [hq_areD, Bool.and_eq_true, decide_eq_true_eq]
  refine ⟨by omega, by omega, ?_⟩
  rw [show s + hq_ndg t s (j - s) - s = hq_ndg t s (j - s) by omega]
  apply (hq_allD_ndg t _ _).mpr
  exact hq_ndg_uniq (Nat.le_refl _) a (fun h => absurd h (by omega))
theorem hq_nuMB_eq {t : Nat → Int32} {s j : Nat} {ng : Bool} (hs : s ≤ j) : hq_nuMB t s ng j = (hq_numB t s ng (hq_fnd t 46 s (j - s)) j).getD 1000000 := by
  by_cases hA : hq_areD t s (hq_fnd t 46 s (j - s)) 3 = true
  · obtain ⟨e, n1, n3, n4⟩ := hq_point hs hA
    rw [hq_numB, if_pos hA, e]
    rw [hq_nuMB, if_neg (show ¬ hq_ndg t s (j - s) < 1 by omega), if_pos n3, show s + hq_ndg t s (j - s) - s = hq_ndg t s (j - s) by omega]
    generalize hN : hq_ndg t s (j - s) = n at *
    by_cases hj : j ≤ s + n
    · rw [if_pos hj, if_pos hj]
      cases ng <;> rfl
    · rw [if_neg hj, if_neg hj, if_pos (n4 (by omega))]
      have l2 := hq_ndg_le t (j - (s + n + 1)) (s + n + 1)
      by_cases hB : hq_areD t (s + n + 1) j 2 = true
      · have hB2 := hB
        simp only [hq_areD, Bool.and_eq_true, decide_eq_true_eq] at hB2
        obtain ⟨b1, b2, b3⟩ := hB2
        have e2 := hq_areD_ndg b1 hB
        rw [if_pos hB, e2, if_neg (show ¬ j - (s + n + 1) < 1 by omega), if_neg (show ¬ 2 < j - (s + n + 1) by omega), if_pos (show s + n + 1 + (j - (s + n + 1)) = j by omega)]
        by_cases hm : j - (s + n + 1) = 1
        · rw [if_pos hm, if_pos (show j - (s + n) = 2 by omega), hm]
          cases ng <;> rfl
        · rw [if_neg hm, if_neg (show ¬ j - (s + n) = 2 by omega), show j - (s + n + 1) = 2 by omega]
          cases ng <;> rfl
      · rw [if_neg hB]
        by_cases c1 : hq_ndg t (s + n + 1) (j - (s + n + 1)) < 1
        · rw [if_pos c1]; rfl
        · rw [if_neg c1]
          by_cases c2 : 2 < hq_ndg t (s + n + 1) (j - (s + n + 1))
          · rw [if_pos c2]; rfl
          · rw [if_neg c2]
            by_cases c3 : s + n + 1 + hq_ndg t (s + n + 1) (j - (s + n + 1)) = j
            · exact absurd (hq_ndg_areD (m := 2) (show s + n + 1 < j by omega) (by omega) (by omega)) hB
            · rw [if_neg c3]; rfl
  · rw [hq_numB, if_neg hA, hq_nuMB]
    by_cases c1 : hq_ndg t s (j - s) < 1
    · rw [if_pos c1]; rfl
    · rw [if_neg c1]
      by_cases c2 : hq_ndg t s (j - s) ≤ 3
      · rw [if_pos c2]
        by_cases c3 : j ≤ s + hq_ndg t s (j - s)
        · exact absurd (hq_point' hs (by omega) c2 (fun h => absurd h (by omega))) hA
        · rw [if_neg c3]
          by_cases c4 : t (s + hq_ndg t s (j - s)) = 46
          · exact absurd (hq_point' hs (by omega) c2 (fun _ => c4)) hA
          · rw [if_neg c4]; rfl
      · rw [if_neg c2]; rfl
theorem hq_st_le {t : Nat → Int32} {i j : Nat} (h : i ≤ j) : hq_st t i j ≤ j := by
  unfold hq_st
  by_cases h1 : i < j
  · rw [if_pos h1]
    by_cases h2 : t i = 45
    · rw [if_pos h2]; omega
    · rw [if_neg h2]; omega
  · rw [if_neg h1]; exact h
theorem hq_nuM_eq {t : Nat → Int32} {i j : Nat} (h : i ≤ j) : hq_nuM t i j = (hq_num t i j).getD 1000000 := hq_nuMB_eq (hq_st_le h)
/-- how large numbers are -/
theorem hq_dig_int {x : Int32} (h : hq_dig x = true) : 0 ≤ (x - 48).toInt ∧ (x - 48).toInt ≤ 9 := by
  simp only [hq_dig, Bool.and_eq_true, decide_eq_true_eq] at h
  have a1 := Int32.le_iff_toInt_le.mp h.1
  have a2 := Int32.le_iff_toInt_le.mp h.2
  have e1 : (48 : Int32).toInt = 48 := by decide
  have e2 : (57 : Int32).toInt = 57 := by decide
  rw [Jvm.Kit.i32_sub (by omega) (by omega), e1]
  omega
theorem hq_dec_int {t : Nat → Int32} : ∀ n i (v : Int32) (b : Nat), hq_allD t i n = true → 0 ≤ v.toInt → v.toInt < 10 ^ b → b + n ≤ 9 → 0 ≤ (hq_dec t i n v).toInt ∧ (hq_dec t i n v).toInt < 10 ^ (b + n) := by
  intro n
  induction n with
  | zero => intro i v b _ h0 h1 _; exact ⟨h0, h1⟩
  | succ n ih =>
    intro i v b hd h0 h1 hb
    simp only [hq_allD, Bool.and_eq_true] at hd
    obtain ⟨d0, d9⟩ := hq_dig_int hd.1
    have hp : (10 : Int) ^ b ≤ 10 ^ 8 := by
      have : b ≤ 8 := by omega
      rcases (show b = 0 ∨ b = 1 ∨ b = 2 ∨ b = 3 ∨ b = 4 ∨ b = 5 ∨ b = 6 ∨ b = 7 ∨ b = 8 by omega) with rfl | rfl | rfl | rfl | rfl | rfl | rfl | rfl | rfl <;> decide
    have et : (10 : Int32).toInt = 10 := by decide
    have e1 : (v * 10).toInt = v.toInt * 10 := by rw [Jvm.Kit.i32_mul (by rw [et]; omega) (by rw [et]; omega), et]
    have e2 : (v * 10 + (t i - 48)).toInt = v.toInt * 10 + (t i - 48).toInt := by rw [Jvm.Kit.i32_add (by rw [e1]; omega) (by rw [e1]; omega), e1]
    have h2 := ih (i + 1) (v * 10 + (t i - 48)) (b + 1) hd.2 (by rw [e2]; omega) (by rw [e2, Int.pow_succ]; omega) (by omega)
    rw [show b + (n + 1) = b + 1 + n by omega]
    exact h2
theorem hq_val_in {a b : Int32} (a0 : 0 ≤ a.toInt) (a1 : a.toInt < 1000) (b0 : 0 ≤ b.toInt) (b1 : b.toInt < 100) : (0 ≤ (100 * a + b).toInt ∧ (100 * a + b).toInt ≤ 99999) ∧ (-99999 ≤ (-(100 * a + b)).toInt ∧ (-(100 * a + b)).toInt ≤ 0) := by
  have et : (100 : Int32).toInt = 100 := by decide
  have e1 : (100 * a).toInt = 100 * a.toInt := by rw [Jvm.Kit.i32_mul (by rw [et]; omega) (by rw [et]; omega), et]
  have e2 : (100 * a + b).toInt = 100 * a.toInt + b.toInt := by rw [Jvm.Kit.i32_add (by rw [e1]; omega) (by rw [e1]; omega), e1]
  have e3 : (-(100 * a + b)).toInt = -(100 * a.toInt + b.toInt) := by rw [Jvm.Kit.i32_neg (by omega), e2]
  omega
theorem hq_ten_in {b : Int32} (b0 : 0 ≤ b.toInt) (b1 : b.toInt < 10) : 0 ≤ (10 * b).toInt ∧ (10 * b).toInt < 100 := by
  have et : (10 : Int32).toInt = 10 := by decide
  rw [Jvm.Kit.i32_mul (by rw [et]; omega) (by rw [et]; omega), et]
  omega
theorem hq_areD_all' {t : Nat → Int32} {i j m : Nat} (h : hq_areD t i j m = true) : i < j ∧ j - i ≤ m ∧ hq_allD t i (j - i) = true := by
  simp only [hq_areD, Bool.and_eq_true, decide_eq_true_eq] at h
  exact h
theorem hq_dec_in {t : Nat → Int32} {i n b : Nat} (h : hq_allD t i n = true) (hn : n ≤ b) (hb : b ≤ 9) : 0 ≤ (hq_dec t i n 0).toInt ∧ (hq_dec t i n 0).toInt < 10 ^ b := by
  have ez : (0 : Int32).toInt = 0 := by decide
  obtain ⟨h1, h2⟩ := hq_dec_int n i 0 (b - n) h (by rw [ez]; omega) (by rw [ez]; exact Int.pow_pos (by decide)) (by omega)
  rw [show b - n + n = b by omega] at h2
  exact ⟨h1, h2⟩
theorem hq_num_in {t : Nat → Int32} {i j : Nat} {v : Int32} (h : hq_num t i j = some v) : -99999 ≤ v.toInt ∧ v.toInt ≤ 99999 := by
  unfold hq_num at h
  generalize hq_st t i j = s at h
  generalize hq_isN t i j = ng at h
  generalize hq_fnd t 46 s (j - s) = p at h
  unfold hq_numB at h
  have ez : (0 : Int32).toInt = 0 := by decide
  by_cases hA : hq_areD t s p 3 = true
  · rw [if_pos hA] at h
    obtain ⟨a1, a2, a3⟩ := hq_areD_all' hA
    obtain ⟨d1, d2⟩ := hq_dec_in (b := 3) a3 a2 (by decide)
    have d3 : (hq_dec t s (p - s) 0).toInt < 1000 := d2
    by_cases hj : j ≤ p
    · rw [if_pos hj] at h
      have hv := hq_val_in (a := hq_dec t s (p - s) 0) (b := 0) d1 d3 (by rw [ez]; omega) (by rw [ez]; omega)
      rw [Int32.add_zero] at hv
      cases ng
      · rw [if_neg (by decide)] at h; cases h; omega
      · rw [if_pos rfl] at h; cases h; omega
    · rw [if_neg hj] at h
      by_cases hB : hq_areD t (p + 1) j 2 = true
      · rw [if_pos hB] at h
        obtain ⟨b1, b2, b3⟩ := hq_areD_all' hB
        by_cases hm : j - p = 2
        · rw [if_pos hm] at h
          obtain ⟨f1, f2⟩ := hq_dec_in (b := 1) b3 (by omega) (by decide)
          have f3 : (hq_dec t (p + 1) (j - (p + 1)) 0).toInt < 10 := f2
          obtain ⟨g1, g2⟩ := hq_ten_in f1 f3
          have hv := hq_val_in d1 d3 g1 g2
          cases ng
          · rw [if_neg (by decide)] at h; cases h; omega
          · rw [if_pos rfl] at h; cases h; omega
        · rw [if_neg hm] at h
          obtain ⟨f1, f2⟩ := hq_dec_in (b := 2) b3 (by omega) (by decide)
          have f3 : (hq_dec t (p + 1) (j - (p + 1)) 0).toInt < 100 := f2
          have hv := hq_val_in d1 d3 f1 f3
          cases ng
          · rw [if_neg (by decide)] at h; cases h; omega
          · rw [if_pos rfl] at h; cases h; omega
      · rw [if_neg hB] at h; cases h
  · rw [if_neg hA] at h; cases h
/-- no number: both marks -/
theorem hq_numC_bad {t : Nat → Int32} {i j : Nat} (h : i ≤ j) : hq_numC t i j = -2147483648 ↔ hq_nuM t i j = 1000000 := by
  rw [hq_nuM_eq h, hq_numC]
  cases hn : hq_num t i j with
  | none => exact ⟨fun _ => rfl, fun _ => rfl⟩
  | some v =>
    have hv := hq_num_in hn
    have e1 : (-2147483648 : Int32).toInt = -2147483648 := by decide
    have e2 : (1000000 : Int32).toInt = 1000000 := by decide
    constructor
    · intro h9
      have h8 : v = -2147483648 := h9
      rw [h8, e1] at hv; omega
    · intro h9
      have h8 : v = 1000000 := h9
      rw [h8, e2] at hv; omega
theorem hq_numC_ok {t : Nat → Int32} {i j : Nat} (h : i ≤ j) (hb : ¬ hq_nuM t i j = 1000000) : hq_nuM t i j = hq_numC t i j := by
  rw [hq_nuM_eq h] at hb ⊢
  rw [hq_numC]
  cases hn : hq_num t i j with
  | none => rw [hn] at hb; exact absurd rfl hb
  | some v => rfl
theorem hq_numC_in {t : Nat → Int32} {i j : Nat} (hb : ¬ hq_numC t i j = -2147483648) : -99999 ≤ (hq_numC t i j).toInt ∧ (hq_numC t i j).toInt ≤ 99999 := by
  rw [hq_numC] at hb ⊢
  cases hn : hq_num t i j with
  | none => rw [hn] at hb; exact absurd rfl hb
  | some v => exact hq_num_in hn
