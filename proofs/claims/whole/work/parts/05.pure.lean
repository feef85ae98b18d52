/-! What the leaf methods work out, as functions on texts (a text: places to characters). -/
def hq_dig (c : Int32) : Bool := decide (48 ≤ c) && decide (c ≤ 57)
/-- all of n characters from i on are digits -/
def hq_allD (t : Nat → Int32) : Nat → Nat → Bool
  | _, 0 => true
  | i, n + 1 => hq_dig (t i) && hq_allD t (i + 1) n
def hq_areD (t : Nat → Int32) (i j most : Nat) : Bool := decide (i < j) && (decide (j - i ≤ most) && hq_allD t i (j - i))
/-- the number that n characters from i on write, behind what was read before -/
def hq_dec (t : Nat → Int32) : Nat → Nat → Int32 → Int32
  | _, 0, v => v
  | i, n + 1, v => hq_dec t (i + 1) n (v * 10 + (t i - 48))
/-- the first of n places from i on with c, or the place behind them -/
def hq_fnd (t : Nat → Int32) (c : Int32) : Nat → Nat → Nat
  | i, 0 => i
  | i, n + 1 => if t i = c then i else hq_fnd t c (i + 1) n
/-- the first of n places from i on that isn't c -/
def hq_skp (t : Nat → Int32) (c : Int32) : Nat → Nat → Nat
  | i, 0 => i
  | i, n + 1 => if t i = c then hq_skp t c (i + 1) n else i
theorem hq_fnd_le (t : Nat → Int32) (c : Int32) : ∀ n i, i ≤ hq_fnd t c i n ∧ hq_fnd t c i n ≤ i + n := by
  intro n
  induction n with
  | zero => intro i; exact ⟨Nat.le_refl _, Nat.le_refl _⟩
  | succ n ih =>
    intro i
    have h := ih (i + 1)
    by_cases hc : t i = c
    · simp only [hq_fnd, if_pos hc]; omega
    · simp only [hq_fnd, if_neg hc]; omega
theorem hq_skp_le (t : Nat → Int32) (c : Int32) : ∀ n i, i ≤ hq_skp t c i n ∧ hq_skp t c i n ≤ i + n := by
  intro n
  induction n with
  | zero => intro i; exact ⟨Nat.le_refl _, Nat.le_refl _⟩
  | succ n ih =>
    intro i
    have h := ih (i + 1)
    by_cases hc : t i = c
    · simp only [hq_skp, if_pos hc]; omega
    · simp only [hq_skp, if_neg hc]; omega
/-- a step of the loops, at a place a below j -/
theorem hq_fnd_no {t : Nat → Int32} {c : Int32} {a j : Nat} (h : a < j) (hc : ¬ t a = c) : hq_fnd t c a (j - a) = hq_fnd t c (a + 1) (j - (a + 1)) := by
  rw [show j - a = (j - (a + 1)) + 1 by omega]
  simp only [hq_fnd, if_neg hc]
theorem hq_fnd_yes {t : Nat → Int32} {c : Int32} {a j : Nat} (h : a < j) (hc : t a = c) : hq_fnd t c a (j - a) = a := by
  rw [show j - a = (j - (a + 1)) + 1 by omega]
  simp only [hq_fnd, if_pos hc]
theorem hq_fnd_end {t : Nat → Int32} {c : Int32} {a j : Nat} (h : ¬ a < j) : hq_fnd t c a (j - a) = a := by
  rw [show j - a = 0 by omega]
  rfl
theorem hq_skp_yes {t : Nat → Int32} {c : Int32} {a j : Nat} (h : a < j) (hc : t a = c) : hq_skp t c a (j - a) = hq_skp t c (a + 1) (j - (a + 1)) := by
  rw [show j - a = (j - (a + 1)) + 1 by omega]
  simp only [hq_skp, if_pos hc]
theorem hq_skp_no {t : Nat → Int32} {c : Int32} {a j : Nat} (h : a < j) (hc : ¬ t a = c) : hq_skp t c a (j - a) = a := by
  rw [show j - a = (j - (a + 1)) + 1 by omega]
  simp only [hq_skp, if_neg hc]
theorem hq_skp_end {t : Nat → Int32} {c : Int32} {a j : Nat} (h : ¬ a < j) : hq_skp t c a (j - a) = a := by
  rw [show j - a = 0 by omega]
  rfl
theorem hq_allD_yes {t : Nat → Int32} {a j : Nat} (h : a < j) (h1 : 48 ≤ t a) (h2 : t a ≤ 57) : hq_allD t a (j - a) = hq_allD t (a + 1) (j - (a + 1)) := by
  rw [show j - a = (j - (a + 1)) + 1 by omega]
  simp only [hq_allD, hq_dig, h1, h2, decide_true, Bool.true_and]
theorem hq_allD_lo {t : Nat → Int32} {a j : Nat} (h : a < j) (h1 : t a < 48) : hq_allD t a (j - a) = false := by
  rw [show j - a = (j - (a + 1)) + 1 by omega]
  have h2 : ¬ (48 : Int32) ≤ t a := Int32.not_le.mpr h1
  simp only [hq_allD, hq_dig, h2, decide_false, Bool.false_and]
theorem hq_allD_hi {t : Nat → Int32} {a j : Nat} (h : a < j) (h1 : ¬ t a ≤ 57) : hq_allD t a (j - a) = false := by
  rw [show j - a = (j - (a + 1)) + 1 by omega]
  simp only [hq_allD, hq_dig, h1, decide_false, Bool.and_false, Bool.false_and]
theorem hq_allD_end {t : Nat → Int32} {a j : Nat} (h : ¬ a < j) : hq_allD t a (j - a) = true := by
  rw [show j - a = 0 by omega]
  rfl
theorem hq_areD_no {t : Nat → Int32} {i j m : Nat} (h : j ≤ i) : hq_areD t i j m = false := by
  have h2 : ¬ i < j := by omega
  simp only [hq_areD, h2, decide_false, Bool.false_and]
theorem hq_areD_long {t : Nat → Int32} {i j m : Nat} (h : ¬ j - i ≤ m) : hq_areD t i j m = false := by
  simp only [hq_areD, h, decide_false, Bool.false_and, Bool.and_false]
theorem hq_areD_all {t : Nat → Int32} {i j m : Nat} (h : ¬ j ≤ i) (h2 : j - i ≤ m) : hq_areD t i j m = hq_allD t i (j - i) := by
  have h3 : i < j := by omega
  simp only [hq_areD, h2, h3, decide_true, Bool.true_and]
theorem hq_dec_go {t : Nat → Int32} {a j : Nat} {v : Int32} (h : a < j) : hq_dec t a (j - a) v = hq_dec t (a + 1) (j - (a + 1)) (v * 10 + (t a - 48)) := by
  rw [show j - a = (j - (a + 1)) + 1 by omega]
  rfl
theorem hq_dec_end {t : Nat → Int32} {a j : Nat} {v : Int32} (h : ¬ a < j) : hq_dec t a (j - a) v = v := by
  rw [show j - a = 0 by omega]
  rfl
/-- n characters from i on, the last first, as digits to the base 256 -/
def hq_blk (t : Nat → Int32) (i : Nat) : Nat → Int32 → Int32
  | 0, v => v
  | n + 1, v => hq_blk t i n (v * 256 + t (i + n))
/-- the whole root -/
def hq_sqrt : Nat → Nat
  | 0 => 0
  | n + 1 => if (hq_sqrt n + 1) * (hq_sqrt n + 1) ≤ n + 1 then hq_sqrt n + 1 else hq_sqrt n
theorem hq_sqrt_spec : ∀ n, hq_sqrt n * hq_sqrt n ≤ n ∧ n < (hq_sqrt n + 1) * (hq_sqrt n + 1) := by
  intro n
  induction n with
  | zero => exact ⟨by decide, by decide⟩
  | succ n ih =>
    by_cases h : (hq_sqrt n + 1) * (hq_sqrt n + 1) ≤ n + 1
    · simp only [hq_sqrt, if_pos h]
      refine ⟨h, ?_⟩
      have e : (hq_sqrt n + 1 + 1) * (hq_sqrt n + 1 + 1) = (hq_sqrt n + 1) * (hq_sqrt n + 1) + 2 * (hq_sqrt n + 1) + 1 := by
        rw [Nat.mul_add, Nat.add_mul]; omega
      omega
    · simp only [hq_sqrt, if_neg h]
      exact ⟨by omega, by omega⟩
theorem hq_sqrt_uniq {n r : Nat} (h1 : r * r ≤ n) (h2 : n < (r + 1) * (r + 1)) : r = hq_sqrt n := by
  obtain ⟨a, b⟩ := hq_sqrt_spec n
  rcases Nat.lt_trichotomy r (hq_sqrt n) with h | h | h
  · have := Nat.mul_le_mul (show r + 1 ≤ hq_sqrt n from h) (show r + 1 ≤ hq_sqrt n from h)
    omega
  · exact h
  · have := Nat.mul_le_mul (show hq_sqrt n + 1 ≤ r from h) (show hq_sqrt n + 1 ≤ r from h)
    omega
def hq_root (v : Int64) : Int64 := lN (hq_sqrt v.toInt.toNat)
/-- a character that can be typed -/
def hq_ch (x : Int32) : Prop := (32 : Int32) ≤ x ∧ x ≤ 126
theorem hq_ch_of {x : Int32} (h : hq_ch x) : ∃ j : Nat, j < 127 ∧ x = nI j := by
  obtain ⟨h1, h2⟩ := h
  have a1 := Int32.le_iff_toInt_le.mp h1
  have a2 := Int32.le_iff_toInt_le.mp h2
  have e1 : (32 : Int32).toInt = 32 := by decide
  have e2 : (126 : Int32).toInt = 126 := by decide
  rw [e1] at a1
  rw [e2] at a2
  obtain ⟨j, hj, e⟩ := nI_of (x := x) (by
    intro h
    have := Int32.lt_iff_toInt_lt.mp h
    have e0 : (0 : Int32).toInt = 0 := by decide
    omega)
  refine ⟨j, ?_, e⟩
  rw [e, nI_toInt hj] at a2
  omega
theorem hq_ch_vp {x : Int32} (h : hq_ch x) : vp_nar .char x = x := by
  obtain ⟨j, hj, rfl⟩ := hq_ch_of h
  have := (pk_charN (q := j) (by omega)).1
  simp [vp_nar, this]
theorem hq_ch_nar {x : Int32} (h : hq_ch x) : narrow .char (.int x) = .int x := by
  obtain ⟨j, hj, rfl⟩ := hq_ch_of h
  exact (pk_charN (q := j) (by omega)).1
theorem hq_ch_fit {x : Int32} (h : hq_ch x) : fits .char (.int x) = true := by
  obtain ⟨j, hj, rfl⟩ := hq_ch_of h
  exact (pk_charN (q := j) (by omega)).2
/-- is the pair (x, y) among n pairs from a on -/
def hq_hasP (f g : Nat → Int32) (x y : Int32) : Nat → Nat → Bool
  | _, 0 => false
  | a, n + 1 => (decide (f a = x) && decide (g a = y)) || hq_hasP f g x y (a + 1) n
theorem hq_hasP_l {f g : Nat → Int32} {x y : Int32} {a j : Nat} (h : a < j) (h1 : ¬ f a = x) : hq_hasP f g x y a (j - a) = hq_hasP f g x y (a + 1) (j - (a + 1)) := by
  rw [show j - a = (j - (a + 1)) + 1 by omega]
  simp only [hq_hasP, h1, decide_false, Bool.false_and, Bool.false_or]
theorem hq_hasP_r {f g : Nat → Int32} {x y : Int32} {a j : Nat} (h : a < j) (h1 : ¬ g a = y) : hq_hasP f g x y a (j - a) = hq_hasP f g x y (a + 1) (j - (a + 1)) := by
  rw [show j - a = (j - (a + 1)) + 1 by omega]
  simp only [hq_hasP, h1, decide_false, Bool.and_false, Bool.false_or]
theorem hq_hasP_yes {f g : Nat → Int32} {x y : Int32} {a j : Nat} (h : a < j) (h1 : f a = x) (h2 : g a = y) : hq_hasP f g x y a (j - a) = true := by
  rw [show j - a = (j - (a + 1)) + 1 by omega]
  simp only [hq_hasP, h1, h2, decide_true, Bool.true_and, Bool.true_or]
theorem hq_hasP_end {f g : Nat → Int32} {x y : Int32} {a j : Nat} (h : ¬ a < j) : hq_hasP f g x y a (j - a) = false := by
  rw [show j - a = 0 by omega]
  rfl
/-- a table's size -/
def hq_pow (n : Nat) : Prop := n = 8 ∨ n = 16 ∨ n = 32
def hq_slot (n : Nat) (x : Int32) : Nat := x.toBitVec.toNat % n
theorem hq_slot_lt {n : Nat} (h : hq_pow n) (x : Int32) : hq_slot n x < n := by
  rcases h with rfl | rfl | rfl <;> exact Nat.mod_lt _ (by decide)
theorem hq_slot_and {n : Nat} (h : hq_pow n) (x : Int32) : x &&& (nI n - 1) = nI (hq_slot n x) := by
  rcases h with rfl | rfl | rfl
  · exact pk_and x 3 (by decide)
  · exact pk_and x 4 (by decide)
  · exact pk_and x 5 (by decide)
/-- a number: where its digits begin, whether it has a sign, its worth in hundredths -/
def hq_st (t : Nat → Int32) (i j : Nat) : Nat := if i < j then (if t i = 45 then i + 1 else i) else i
def hq_isN (t : Nat → Int32) (i j : Nat) : Bool := if i < j then (if t i = 45 then true else false) else false
def hq_numB (t : Nat → Int32) (st : Nat) (ng : Bool) (p j : Nat) : Option Int32 :=
  if hq_areD t st p 3 = true then
    (if j ≤ p then (if ng = true then some (-(100 * hq_dec t st (p - st) 0)) else some (100 * hq_dec t st (p - st) 0))
     else if hq_areD t (p + 1) j 2 = true then
      (if j - p = 2 then (if ng = true then some (-(100 * hq_dec t st (p - st) 0 + 10 * hq_dec t (p + 1) (j - (p + 1)) 0)) else some (100 * hq_dec t st (p - st) 0 + 10 * hq_dec t (p + 1) (j - (p + 1)) 0))
       else (if ng = true then some (-(100 * hq_dec t st (p - st) 0 + hq_dec t (p + 1) (j - (p + 1)) 0)) else some (100 * hq_dec t st (p - st) 0 + hq_dec t (p + 1) (j - (p + 1)) 0)))
     else none)
  else none
def hq_num (t : Nat → Int32) (i j : Nat) : Option Int32 := hq_numB t (hq_st t i j) (hq_isN t i j) (hq_fnd t 46 (hq_st t i j) (j - hq_st t i j)) j
def hq_numC (t : Nat → Int32) (i j : Nat) : Int32 := (hq_num t i j).getD (-2147483648)
theorem hq_l_of {v : Int64} (h0 : 0 ≤ v.toInt) (h1 : v.toInt ≤ 10000000000000000) : ∃ w : Nat, w ≤ 10000000000000000 ∧ v = lN w := by
  refine ⟨v.toInt.toNat, by omega, ?_⟩
  apply Int64.toInt_inj.mp
  rw [pk_lT (by omega)]
  omega
theorem hq_shl1 : ∀ b, b < 27 → (1 : Int64) <<< (Int32.toInt64 (nI b) &&& 63) = lN (2 ^ b) := by decide
theorem hq_root_in {w k d : Nat} (h : w < (k + 2 ^ (d + 1)) * (k + 2 ^ (d + 1))) : w < (k + 2 ^ d + 2 ^ d) * (k + 2 ^ d + 2 ^ d) := by
  rw [show k + 2 ^ d + 2 ^ d = k + 2 ^ (d + 1) by rw [Nat.pow_succ]; omega]
  exact h
theorem hq_root_done {w k : Nat} (h1 : k * k ≤ w) (h2 : w < (k + 2 ^ 0) * (k + 2 ^ 0)) (hw : w ≤ 10000000000000000) : lN k = hq_root (lN w) := by
  have e : (lN w).toInt.toNat = w := by rw [pk_lT (by omega)]; rfl
  rw [hq_root, e, ← hq_sqrt_uniq h1 h2]
/-- a list written into an array from place k on -/
def hq_wr {α : Type} (up : (Nat → α) → Nat → α → (Nat → α)) (f : Nat → α) : Nat → List α → (Nat → α)
  | _, [] => f
  | k, x :: xs => hq_wr up (up f k x) (k + 1) xs
theorem hq_wr_app {α : Type} (up : (Nat → α) → Nat → α → (Nat → α)) : ∀ (a : List α) (f : Nat → α) (k : Nat) (b : List α), hq_wr up f k (a ++ b) = hq_wr up (hq_wr up f k a) (k + a.length) b := by
  intro a
  induction a with
  | nil => intro f k b; rfl
  | cons x xs ih =>
    intro f k b
    show hq_wr up (up f k x) (k + 1) (xs ++ b) = hq_wr up (hq_wr up (up f k x) (k + 1) xs) (k + (xs.length + 1)) b
    rw [ih, show k + 1 + xs.length = k + (xs.length + 1) by omega]
theorem hq_wr_one {α : Type} (up : (Nat → α) → Nat → α → (Nat → α)) (a : List α) (f : Nat → α) (k : Nat) (x : α) : up (hq_wr up f k a) (k + a.length) x = hq_wr up f k (a ++ [x]) := by
  rw [hq_wr_app]
  rfl
theorem hq_wr_lo : ∀ (a : List Int32) (f : Nat → Int32) (k j : Nat), j < k → hq_wr upd f k a j = f j := by
  intro a
  induction a with
  | nil => intro f k j _; rfl
  | cons x xs ih =>
    intro f k j h
    show hq_wr upd (upd f k x) (k + 1) xs j = f j
    rw [ih _ _ _ (by omega), pk_un (by omega)]
theorem hq_wr_at : ∀ (a : List Int32) (f : Nat → Int32) (k j : Nat), j < a.length → hq_wr upd f k a (k + j) = a.getD j 0 := by
  intro a
  induction a with
  | nil => intro f k j h; exact absurd h (by simp)
  | cons x xs ih =>
    intro f k j h
    show hq_wr upd (upd f k x) (k + 1) xs (k + j) = _
    cases j with
    | zero => rw [hq_wr_lo _ _ _ _ (by omega)]; exact pk_us
    | succ j =>
      rw [show k + (j + 1) = k + 1 + j by omega, ih _ _ _ (by simp at h; omega)]
      rfl
theorem hq_dig_lo {x : Int32} (h : x < 48) : hq_dig x = false := by
  have h2 : ¬ (48 : Int32) ≤ x := Int32.not_le.mpr h
  simp only [hq_dig, h2, decide_false, Bool.false_and]
theorem hq_dig_hi {x : Int32} (h : 57 < x) : hq_dig x = false := by
  have h2 : ¬ x ≤ (57 : Int32) := Int32.not_le.mpr h
  simp only [hq_dig, h2, decide_false, Bool.and_false]
theorem hq_dig_in {x : Int32} (h : ¬ x < 48) (h2 : ¬ 57 < x) : hq_dig x = true := by
  have h3 : (48 : Int32) ≤ x := Int32.not_lt.mp h
  have h4 : x ≤ (57 : Int32) := Int32.not_lt.mp h2
  simp only [hq_dig, h3, h4, decide_true, Bool.true_and]
/-- how many digits stand at the beginning of n characters from i on -/
def hq_ndg (t : Nat → Int32) : Nat → Nat → Nat
  | _, 0 => 0
  | i, n + 1 => if hq_dig (t i) = true then 1 + hq_ndg t (i + 1) n else 0
theorem hq_ndg_le (t : Nat → Int32) : ∀ n i, hq_ndg t i n ≤ n := by
  intro n
  induction n with
  | zero => intro i; exact Nat.le_refl _
  | succ n ih =>
    intro i
    have h := ih (i + 1)
    by_cases hc : hq_dig (t i) = true
    · simp only [hq_ndg, if_pos hc]; omega
    · simp only [hq_ndg, if_neg hc]; omega
theorem hq_ndg_yes {t : Nat → Int32} {i a j : Nat} (h : i + a < j) (hc : hq_dig (t (i + a)) = true) : a + hq_ndg t (i + a) (j - (i + a)) = (a + 1) + hq_ndg t (i + (a + 1)) (j - (i + (a + 1))) := by
  rw [show j - (i + a) = (j - (i + (a + 1))) + 1 by omega]
  simp only [hq_ndg, if_pos hc]
  rw [show i + a + 1 = i + (a + 1) by omega]
  omega
theorem hq_ndg_no {t : Nat → Int32} {a j : Nat} (h : a < j) (hc : ¬ hq_dig (t a) = true) : hq_ndg t a (j - a) = 0 := by
  rw [show j - a = (j - (a + 1)) + 1 by omega]
  simp only [hq_ndg, if_neg hc]
theorem hq_ndg_end {t : Nat → Int32} {a j : Nat} (h : ¬ a < j) : hq_ndg t a (j - a) = 0 := by
  rw [show j - a = 0 by omega]
  rfl
theorem hq_decM_go {t : Nat → Int32} {i a q : Nat} {v : Int32} (h : a < q) : hq_dec t (i + a) (q - a) v = hq_dec t (i + (a + 1)) (q - (a + 1)) (v * 10 + (t (i + a) - 48)) := by
  rw [show q - a = (q - (a + 1)) + 1 by omega]
  rfl
theorem hq_decM_end {t : Nat → Int32} {i a q : Nat} {v : Int32} (h : ¬ a < q) : hq_dec t (i + a) (q - a) v = v := by
  rw [show q - a = 0 by omega]
  rfl
/-- a number as the reference reads it -/
def hq_nuMB (t : Nat → Int32) (st : Nat) (ng : Bool) (j : Nat) : Int32 :=
  if hq_ndg t st (j - st) < 1 then 1000000 else if hq_ndg t st (j - st) ≤ 3 then
    (if j ≤ st + hq_ndg t st (j - st) then (if ng = true then -(100 * hq_dec t st (hq_ndg t st (j - st)) 0) else 100 * hq_dec t st (hq_ndg t st (j - st)) 0)
     else if t (st + hq_ndg t st (j - st)) = 46 then
      (if hq_ndg t (st + hq_ndg t st (j - st) + 1) (j - (st + hq_ndg t st (j - st) + 1)) < 1 then 1000000
       else if 2 < hq_ndg t (st + hq_ndg t st (j - st) + 1) (j - (st + hq_ndg t st (j - st) + 1)) then 1000000
       else if st + hq_ndg t st (j - st) + 1 + hq_ndg t (st + hq_ndg t st (j - st) + 1) (j - (st + hq_ndg t st (j - st) + 1)) = j then
        (if hq_ndg t (st + hq_ndg t st (j - st) + 1) (j - (st + hq_ndg t st (j - st) + 1)) = 1 then
          (if ng = true then -(100 * hq_dec t st (hq_ndg t st (j - st)) 0 + 10 * hq_dec t (st + hq_ndg t st (j - st) + 1) 1 0) else 100 * hq_dec t st (hq_ndg t st (j - st)) 0 + 10 * hq_dec t (st + hq_ndg t st (j - st) + 1) 1 0)
         else (if ng = true then -(100 * hq_dec t st (hq_ndg t st (j - st)) 0 + hq_dec t (st + hq_ndg t st (j - st) + 1) 2 0) else 100 * hq_dec t st (hq_ndg t st (j - st)) 0 + hq_dec t (st + hq_ndg t st (j - st) + 1) 2 0))
       else 1000000)
     else 1000000)
  else 1000000
def hq_nuM (t : Nat → Int32) (i j : Nat) : Int32 := hq_nuMB t (hq_st t i j) (hq_isN t i j) j
theorem hq_half {lo hi k : Nat} (h : hi - lo ≤ 2 ^ (27 - k)) : (lo + hi) / 2 - lo ≤ 2 ^ (27 - (k + 1)) ∧ hi - (lo + hi) / 2 ≤ 2 ^ (27 - (k + 1)) := by
  by_cases hk : k < 27
  · rw [show 27 - k = (27 - (k + 1)) + 1 by omega, Nat.pow_succ] at h
    omega
  · rw [show 27 - k = 0 by omega] at h
    rw [show 27 - (k + 1) = 0 by omega]
    omega
theorem hq_half40 {lo hi k : Nat} (h : hi - lo ≤ 2 ^ (27 - k)) (hk : 40 ≤ k) : hi - lo ≤ 1 := by
  rw [show 27 - k = 0 by omega] at h
  exact h
theorem hq_root_fin {w lo hi : Nat} (h1 : lo * lo ≤ w) (h2 : w < hi * hi) (hw : w ≤ 10000000000000000) (h : hi ≤ lo + 1) : lN lo = hq_root (lN w) := by
  have e : (lN w).toInt.toNat = w := by rw [pk_lT (by omega)]; rfl
  rw [hq_root, e, ← hq_sqrt_uniq h1 (Nat.lt_of_lt_of_le h2 (Nat.mul_le_mul h h))]
