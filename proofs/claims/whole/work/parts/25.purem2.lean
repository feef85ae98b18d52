/-! The reference's table. -/
theorem hq_slot_lt96 {n : Nat} (h : hq_pow n) (x : Int32) : hq_slot n x < 96 := by
  have h1 := hq_slot_lt h x
  rcases h with rfl | rfl | rfl <;> omega
def hq_prM (wt : Nat → Int64) (n : Nat) (th tv : Nat → Int32) : Nat → Nat → Int64 → Int64
  | _, 0, v => v
  | k, m + 1, v => hq_prM wt n th tv (k + 1) m (v + ((wt (hq_slot n (th k))) * (Int32.toInt64 (tv k))))
theorem hq_prM_go {wt : Nat → Int64} {n : Nat} {th tv : Nat → Int32} {k j : Nat} {v : Int64} (h : k < j) : hq_prM wt n th tv k (j - k) v = hq_prM wt n th tv (k + 1) (j - (k + 1)) (v + ((wt (hq_slot n (th k))) * (Int32.toInt64 (tv k)))) := by
  rw [show j - k = (j - (k + 1)) + 1 by omega]
  rfl
theorem hq_prM_end {wt : Nat → Int64} {n : Nat} {th tv : Nat → Int32} {k j : Nat} {v : Int64} (h : ¬ k < j) : hq_prM wt n th tv k (j - k) v = v := by
  rw [show j - k = 0 by omega]
  rfl
def hq_prdM (wt : Nat → Int64) (n : Nat) (th tv : Nat → Int32) (q : Nat) : Int64 := f_M_clip ((hq_prM wt n th tv 0 q 0) / 10000) 1000000
theorem hq_clipM (v m0 : Int64) : f_M_clip v m0 = f_H_clip v m0 := by
  unfold f_M_clip f_H_clip
  by_cases h1 : (-m0) ≤ v
  · rw [if_pos h1, if_pos h1]
    by_cases h2 : m0 < v
    · rw [if_pos h2, if_neg (Int64.not_le.mpr h2)]
    · rw [if_neg h2, if_pos (Int64.not_lt.mp h2)]
  · rw [if_neg h1, if_neg h1]
def hq_s1M (su d : Int64) : Int64 := f_M_clip (su + d * d) 10000000000000000
theorem hq_s1M_eq (su d : Int64) : hq_s1M su d = hq_s1 su d := hq_clipM _ _
theorem hq_s1M_in {su d : Int64} (h0 : 0 ≤ su.toInt) (h1 : su.toInt ≤ 10000000000000000) (d0 : -100000000 ≤ d.toInt) (d1 : d.toInt ≤ 100000000) : 0 ≤ (hq_s1M su d).toInt ∧ (hq_s1M su d).toInt ≤ 10000000000000000 := by
  rw [hq_s1M_eq]
  exact hq_s1_in h0 h1 d0 d1
def hq_mM (x : Int64) : Int64 := if 0 ≤ x then x else -x
theorem hq_mM_int {x : Int64} (h0 : -99999 ≤ x.toInt) (h1 : x.toInt ≤ 99999) : 0 ≤ (hq_mM x).toInt ∧ (hq_mM x).toInt ≤ 99999 ∧ (¬ x = 0 → 0 < (hq_mM x).toInt) := by
  have ez : (0 : Int64).toInt = 0 := by decide
  have en : ¬ x = 0 → x.toInt ≠ 0 := fun h h2 => h (Int64.toInt_inj.mp (by rw [h2, ez]))
  unfold hq_mM
  by_cases h : 0 ≤ x
  · rw [if_pos h]
    have a := Int64.le_iff_toInt_le.mp h
    rw [ez] at a
    exact ⟨a, h1, fun hx => by have := en hx; omega⟩
  · rw [if_neg h]
    have a : ¬ (0 : Int64).toInt ≤ x.toInt := fun h2 => h (Int64.le_iff_toInt_le.mpr h2)
    rw [ez] at a
    rw [Jvm.Kit.i64_neg (by omega)]
    exact ⟨by omega, by omega, fun hx => by omega⟩
theorem hq_mM_ne {x c : Int64} (h0 : -99999 ≤ x.toInt) (h1 : x.toInt ≤ 99999) (c0 : 0 ≤ c.toInt) (h : ¬ hq_mM x ≤ c) : ¬ hq_mM x = 0 := by
  intro e
  apply h
  rw [e]
  apply Int64.le_iff_toInt_le.mpr
  have ez : (0 : Int64).toInt = 0 := by decide
  rw [ez]
  exact c0
def hq_m0c (c x : Int64) : Int64 := if hq_mM x ≤ c then c else hq_mM x
def hq_m0w1 (w c x : Int64) : Int64 := if hq_mM x ≤ c then w else (w * c) / (hq_mM x)
def hq_m0w (w su c x d : Int64) : Int64 := f_M_clip ((hq_m0w1 w c x) - ((500000 * d) / ((1 + (hq_root (hq_s1M su d))) * (hq_m0c c x)))) 100000000
theorem hq_m0c_in {c x : Int64} (h0 : -99999 ≤ x.toInt) (h1 : x.toInt ≤ 99999) (c0 : 0 ≤ c.toInt) (c1 : c.toInt ≤ 99999) : 0 ≤ (hq_m0c c x).toInt ∧ (hq_m0c c x).toInt ≤ 99999 ∧ (¬ x = 0 → 0 < (hq_m0c c x).toInt) := by
  obtain ⟨a, b, d⟩ := hq_mM_int h0 h1
  unfold hq_m0c
  by_cases h : hq_mM x ≤ c
  · rw [if_pos h]
    have := Int64.le_iff_toInt_le.mp h
    exact ⟨c0, c1, fun hx => by have := d hx; omega⟩
  · rw [if_neg h]
    exact ⟨a, b, d⟩
theorem hq_updL2 {f : Nat → Int64} {a : Nat} {x y : Int64} : vp_updL (vp_updL f a x) a y = vp_updL f a y := by
  funext j
  by_cases h : j = a
  · rw [h, pk_uLs, pk_uLs]
  · rw [pk_uLn h, pk_uLn h, pk_uLn h]
def hq_m1c (w su c d : Int64) : Int64 := f_M_clip ((c + d) - ((((hq_root (hq_s1M su d)) - (hq_root su)) * w) / 5000)) 1000000000000
def hq_m1w (w su c d : Int64) : Int64 :=
  if (hq_m1c w su c d) ≤ 0 then
    (if (hq_m1c w su c d) < (-10) then f_M_clip (((-5000) * ((hq_m1c w su c d) + 10)) / (100 + (hq_root (hq_s1M su d)))) 100000000
     else if 10 < (hq_m1c w su c d) then f_M_clip (((-5000) * ((hq_m1c w su c d) + 10)) / (100 + (hq_root (hq_s1M su d)))) 100000000 else 0)
  else
    (if (hq_m1c w su c d) < (-10) then f_M_clip (((-5000) * ((hq_m1c w su c d) - 10)) / (100 + (hq_root (hq_s1M su d)))) 100000000
     else if 10 < (hq_m1c w su c d) then f_M_clip (((-5000) * ((hq_m1c w su c d) - 10)) / (100 + (hq_root (hq_s1M su d)))) 100000000 else 0)
