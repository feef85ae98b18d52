/-! The rules by which a slot is moved: what they keep. -/
theorem hq_clip_bd {v m0 : Int64} {k : Int} (hm : m0.toInt = k) (hk : 0 ≤ k) : -k ≤ (f_H_clip v m0).toInt ∧ (f_H_clip v m0).toInt ≤ k ∧ (0 ≤ v.toInt → 0 ≤ (f_H_clip v m0).toInt) ∧ (-k ≤ v.toInt → v.toInt ≤ k → f_H_clip v m0 = v) := by
  have hlt := Int64.toInt_lt m0
  have hn : (-m0).toInt = -k := by rw [Jvm.Kit.i64_neg (by omega), hm]
  unfold f_H_clip
  by_cases h1 : (-m0) ≤ v
  · rw [if_pos h1]
    have a1 := Int64.le_iff_toInt_le.mp h1
    by_cases h2 : m0 < v
    · rw [if_pos h2]
      have a2 := Int64.lt_iff_toInt_lt.mp h2
      exact ⟨by omega, by omega, fun _ => by omega, fun _ _ => by omega⟩
    · rw [if_neg h2]
      have a2 : ¬ m0.toInt < v.toInt := fun h => h2 (Int64.lt_iff_toInt_lt.mpr h)
      exact ⟨by omega, by omega, fun h => h, fun _ _ => rfl⟩
  · rw [if_neg h1]
    have a1 : ¬ (-m0).toInt ≤ v.toInt := fun h => h1 (Int64.le_iff_toInt_le.mpr h)
    exact ⟨by omega, by omega, fun _ => by omega, fun _ _ => by omega⟩
theorem hq_sq {d : Int} (h1 : -100000000 ≤ d) (h2 : d ≤ 100000000) : 0 ≤ d * d ∧ d * d ≤ 10000000000000000 := by
  refine ⟨by have := Int.natAbs_mul_self (a := d); omega, ?_⟩
  rcases Int.le_total 0 d with h | h
  · calc d * d ≤ 100000000 * d := Int.mul_le_mul_of_nonneg_right h2 h
      _ ≤ 100000000 * 100000000 := Int.mul_le_mul_of_nonneg_left h2 (by decide)
      _ = 10000000000000000 := by decide
  · have e : d * d = (-d) * (-d) := by rw [Int.neg_mul_neg]
    rw [e]
    calc (-d) * (-d) ≤ 100000000 * (-d) := Int.mul_le_mul_of_nonneg_right (by omega) (by omega)
      _ ≤ 100000000 * 100000000 := Int.mul_le_mul_of_nonneg_left (by omega) (by decide)
      _ = 10000000000000000 := by decide
/-- a sum of squares -/
def hq_s1 (su d : Int64) : Int64 := f_H_clip (su + d * d) 10000000000000000
theorem hq_s1_in {su d : Int64} (h0 : 0 ≤ su.toInt) (h1 : su.toInt ≤ 10000000000000000) (d0 : -100000000 ≤ d.toInt) (d1 : d.toInt ≤ 100000000) : 0 ≤ (hq_s1 su d).toInt ∧ (hq_s1 su d).toInt ≤ 10000000000000000 := by
  obtain ⟨q1, q2⟩ := hq_sq d0 d1
  have e1 : (d * d).toInt = d.toInt * d.toInt := Jvm.Kit.i64_mul (by omega) (by omega)
  have e2 : (su + d * d).toInt = su.toInt + d.toInt * d.toInt := by rw [Jvm.Kit.i64_add (by rw [e1]; omega) (by rw [e1]; omega), e1]
  obtain ⟨_, b, c, _⟩ := hq_clip_bd (v := su + d * d) (m0 := 10000000000000000) (k := 10000000000000000) (by decide) (by decide)
  exact ⟨c (by omega), b⟩
theorem hq_sqrt_le {n : Nat} (h : n ≤ 10000000000000000) : hq_sqrt n ≤ 100000000 := by
  have h1 := (hq_sqrt_spec n).1
  apply Nat.le_of_not_lt
  intro h2
  have := Nat.mul_le_mul (show 100000001 ≤ hq_sqrt n from h2) (show 100000001 ≤ hq_sqrt n from h2)
  omega
theorem hq_root_in2 {v : Int64} (h1 : v.toInt ≤ 10000000000000000) : 0 ≤ (hq_root v).toInt ∧ (hq_root v).toInt ≤ 100000000 := by
  have h : hq_sqrt v.toInt.toNat ≤ 100000000 := hq_sqrt_le (by omega)
  rw [hq_root, pk_lT (by omega)]
  omega
/-- the size of a value -/
def hq_m (x : Int32) : Int64 := Int32.toInt64 (if 0 ≤ x then x else 0 - x)
theorem hq_m_int {x : Int32} (h0 : -99999 ≤ x.toInt) (h1 : x.toInt ≤ 99999) : 0 ≤ (hq_m x).toInt ∧ (hq_m x).toInt ≤ 99999 ∧ (¬ x = 0 → 0 < (hq_m x).toInt) := by
  have ez : (0 : Int32).toInt = 0 := by decide
  have en : ¬ x = 0 → x.toInt ≠ 0 := fun h h2 => h (Int32.toInt_inj.mp (by rw [h2, ez]))
  unfold hq_m
  rw [Jvm.Kit.i64_of_i32]
  by_cases h : 0 ≤ x
  · rw [if_pos h]
    have a := Int32.le_iff_toInt_le.mp h
    rw [ez] at a
    exact ⟨a, h1, fun hx => by have := en hx; omega⟩
  · rw [if_neg h]
    have a : ¬ (0 : Int32).toInt ≤ x.toInt := fun h2 => h (Int32.le_iff_toInt_le.mpr h2)
    rw [ez] at a
    rw [Jvm.Kit.i32_sub (by omega) (by omega), ez]
    exact ⟨by omega, by omega, fun hx => by omega⟩
theorem hq_m_ne {x : Int32} (h0 : -99999 ≤ x.toInt) (h1 : x.toInt ≤ 99999) (hx : ¬ x = 0) : ¬ hq_m x = 0 := by
  intro h
  have := (hq_m_int h0 h1).2.2 hx
  rw [h] at this
  exact absurd this (by decide)
def hq_c0c (c : Int64) (x : Int32) : Int64 := if hq_m x ≤ c then c else hq_m x
def hq_c0w1 (w : Int32) (c : Int64) (x : Int32) : Int32 := if hq_m x ≤ c then w else Int64.toInt32 (((Int32.toInt64 w) * c) / (hq_m x))
def hq_c0w (w : Int32) (su c : Int64) (x : Int32) (d : Int64) : Int32 := Int64.toInt32 (f_H_clip ((Int32.toInt64 (hq_c0w1 w c x)) - ((500000 * d) / ((1 + (hq_root (hq_s1 su d))) * (hq_c0c c x)))) 100000000)
theorem hq_c0c_in {c : Int64} {x : Int32} (h0 : -99999 ≤ x.toInt) (h1 : x.toInt ≤ 99999) (c0 : 0 ≤ c.toInt) (c1 : c.toInt ≤ 99999) : 0 ≤ (hq_c0c c x).toInt ∧ (hq_c0c c x).toInt ≤ 99999 ∧ (¬ x = 0 → 0 < (hq_c0c c x).toInt) := by
  obtain ⟨a, b, d⟩ := hq_m_int h0 h1
  unfold hq_c0c
  by_cases h : hq_m x ≤ c
  · rw [if_pos h]
    have := Int64.le_iff_toInt_le.mp h
    exact ⟨c0, c1, fun hx => by have := d hx; omega⟩
  · rw [if_neg h]
    exact ⟨a, b, d⟩
theorem hq_den_ne {r c : Int64} (r0 : 0 ≤ r.toInt) (r1 : r.toInt ≤ 100000000) (c0 : 0 < c.toInt) (c1 : c.toInt ≤ 99999) : ¬ (1 + r) * c = 0 := by
  intro h
  have eo : (1 : Int64).toInt = 1 := by decide
  have e1 : (1 + r).toInt = 1 + r.toInt := by rw [Jvm.Kit.i64_add (by omega) (by omega), eo]
  have hp : 0 < (1 + r.toInt) * c.toInt := Int.mul_pos (by omega) c0
  have hb : (1 + r.toInt) * c.toInt ≤ 100000001 * 99999 := by
    calc (1 + r.toInt) * c.toInt ≤ 100000001 * c.toInt := Int.mul_le_mul_of_nonneg_right (by omega) (by omega)
      _ ≤ 100000001 * 99999 := Int.mul_le_mul_of_nonneg_left c1 (by decide)
  have e2 : ((1 + r) * c).toInt = (1 + r.toInt) * c.toInt := by rw [Jvm.Kit.i64_mul (by rw [e1]; omega) (by rw [e1]; omega), e1]
  rw [h] at e2
  have ez : (0 : Int64).toInt = 0 := by decide
  omega
theorem hq_upd_id {f : Nat → Int32} {a : Nat} : upd f a (f a) = f := by
  funext j
  by_cases h : j = a
  · rw [h]; exact pk_us
  · exact pk_un h
theorem hq_updL_id {f : Nat → Int64} {a : Nat} : vp_updL f a (f a) = f := by
  funext j
  by_cases h : j = a
  · rw [h]; exact pk_uLs
  · exact pk_uLn h
theorem hq_upd2 {f : Nat → Int32} {a : Nat} {x y : Int32} : upd (upd f a x) a y = upd f a y := by
  funext j
  by_cases h : j = a
  · rw [h, pk_us, pk_us]
  · rw [pk_un h, pk_un h, pk_un h]
theorem hq_pow_lt {n : Nat} (h : hq_pow n) : n < 2 ^ 30 := by rcases h with rfl | rfl | rfl <;> decide
def hq_c1c (w : Int32) (su c d : Int64) : Int64 := f_H_clip ((c + d) - ((((hq_root (hq_s1 su d)) - (hq_root su)) * (Int32.toInt64 w)) / 5000)) 1000000000000
def hq_c1w (w : Int32) (su c d : Int64) : Int32 :=
  if 10 < (if 0 < (hq_c1c w su c d) then (hq_c1c w su c d) else -(hq_c1c w su c d)) then
    (if (hq_c1c w su c d) ≤ 0 then Int64.toInt32 (f_H_clip (((-5000) * ((hq_c1c w su c d) + 10)) / (100 + (hq_root (hq_s1 su d)))) 100000000)
     else Int64.toInt32 (f_H_clip (((-5000) * ((hq_c1c w su c d) - 10)) / (100 + (hq_root (hq_s1 su d)))) 100000000))
  else 0
theorem hq_den1_ne {r : Int64} (r0 : 0 ≤ r.toInt) (r1 : r.toInt ≤ 100000000) : ¬ 100 + r = 0 := by
  intro h
  have eo : (100 : Int64).toInt = 100 := by decide
  have e1 : (100 + r).toInt = 100 + r.toInt := by rw [Jvm.Kit.i64_add (by omega) (by omega), eo]
  rw [h] at e1
  have ez : (0 : Int64).toInt = 0 := by decide
  omega
/-- a prediction -/
def hq_prS (wt : Nat → Int32) (n : Nat) (th tv : Nat → Int32) : Nat → Nat → Int64 → Int64
  | _, 0, v => v
  | k, m + 1, v => hq_prS wt n th tv (k + 1) m (v + ((Int32.toInt64 (wt (hq_slot n (th k)))) * (Int32.toInt64 (tv k))))
theorem hq_prS_go {wt : Nat → Int32} {n : Nat} {th tv : Nat → Int32} {k j : Nat} {v : Int64} (h : k < j) : hq_prS wt n th tv k (j - k) v = hq_prS wt n th tv (k + 1) (j - (k + 1)) (v + ((Int32.toInt64 (wt (hq_slot n (th k)))) * (Int32.toInt64 (tv k)))) := by
  rw [show j - k = (j - (k + 1)) + 1 by omega]
  rfl
theorem hq_prS_end {wt : Nat → Int32} {n : Nat} {th tv : Nat → Int32} {k j : Nat} {v : Int64} (h : ¬ k < j) : hq_prS wt n th tv k (j - k) v = v := by
  rw [show j - k = 0 by omega]
  rfl
def hq_prd (wt : Nat → Int32) (n : Nat) (th tv : Nat → Int32) (q : Nat) : Int32 := Int64.toInt32 (f_H_clip ((hq_prS wt n th tv 0 q 0) / 10000) 1000000)
/-- all terms move their slots -/
def hq_mv1 (ru : Int32) (a : Nat) (x : Int32) (d : Int64) (S : (Nat → Int32) × (Nat → Int64) × (Nat → Int64)) : (Nat → Int32) × (Nat → Int64) × (Nat → Int64) :=
  if ru = 1 then (upd S.1 a (hq_c1w (S.1 a) (S.2.1 a) (S.2.2 a) d), vp_updL S.2.1 a (hq_s1 (S.2.1 a) d), vp_updL S.2.2 a (hq_c1c (S.1 a) (S.2.1 a) (S.2.2 a) d))
  else (if x = 0 then S.1 else upd S.1 a (hq_c0w (S.1 a) (S.2.1 a) (S.2.2 a) x d), if x = 0 then S.2.1 else vp_updL S.2.1 a (hq_s1 (S.2.1 a) d), if x = 0 then S.2.2 else vp_updL S.2.2 a (hq_c0c (S.2.2 a) x))
def hq_mv (ru : Int32) (n : Nat) (th tv : Nat → Int32) (gr : Int32) : Nat → Nat → (Nat → Int32) × (Nat → Int64) × (Nat → Int64) → (Nat → Int32) × (Nat → Int64) × (Nat → Int64)
  | _, 0, S => S
  | k, m + 1, S => hq_mv ru n th tv gr (k + 1) m (hq_mv1 ru (hq_slot n (th k)) (tv k) (((Int32.toInt64 gr) * (Int32.toInt64 (tv k))) / 100) S)
theorem hq_mv_go {ru : Int32} {n : Nat} {th tv : Nat → Int32} {gr : Int32} {k j : Nat} {S : (Nat → Int32) × (Nat → Int64) × (Nat → Int64)} (h : k < j) : hq_mv ru n th tv gr k (j - k) S = hq_mv ru n th tv gr (k + 1) (j - (k + 1)) (hq_mv1 ru (hq_slot n (th k)) (tv k) (((Int32.toInt64 gr) * (Int32.toInt64 (tv k))) / 100) S) := by
  rw [show j - k = (j - (k + 1)) + 1 by omega]
  rfl
theorem hq_mv_end {ru : Int32} {n : Nat} {th tv : Nat → Int32} {gr : Int32} {k j : Nat} {S : (Nat → Int32) × (Nat → Int64) × (Nat → Int64)} (h : ¬ k < j) : hq_mv ru n th tv gr k (j - k) S = S := by
  rw [show j - k = 0 by omega]
  rfl
/-- what a table keeps: sums of squares stay in 0 .. 10^16; under rule 0 a scale is the largest value seen -/
def hq_inv (ru : Int32) (n : Nat) (su sc : Nat → Int64) : Prop := ∀ a, a < n → 0 ≤ (su a).toInt ∧ (su a).toInt ≤ 10000000000000000 ∧ (¬ ru = 1 → 0 ≤ (sc a).toInt ∧ (sc a).toInt ≤ 99999)
theorem hq_inv_r1 {ru : Int32} {n a : Nat} {su sc : Nat → Int64} {d c2 : Int64} (h : hq_inv ru n su sc) (ha : a < n) (d0 : -100000000 ≤ d.toInt) (d1 : d.toInt ≤ 100000000) (hr : ru = 1) : hq_inv ru n (vp_updL su a (hq_s1 (su a) d)) (vp_updL sc a c2) := by
  intro b hb
  by_cases e : b = a
  · subst e
    rw [pk_uLs]
    obtain ⟨h1, h2, _⟩ := h b hb
    obtain ⟨g1, g2⟩ := hq_s1_in h1 h2 d0 d1
    exact ⟨g1, g2, fun h => absurd hr h⟩
  · rw [pk_uLn e, pk_uLn e]
    exact h b hb
theorem hq_inv_r0 {ru : Int32} {n a : Nat} {su sc : Nat → Int64} {d : Int64} {x : Int32} (h : hq_inv ru n su sc) (ha : a < n) (d0 : -100000000 ≤ d.toInt) (d1 : d.toInt ≤ 100000000) (hr : ¬ ru = 1) (x0 : -99999 ≤ x.toInt) (x1 : x.toInt ≤ 99999) : hq_inv ru n (if x = 0 then su else vp_updL su a (hq_s1 (su a) d)) (if x = 0 then sc else vp_updL sc a (hq_c0c (sc a) x)) := by
  by_cases hx : x = 0
  · rw [if_pos hx, if_pos hx]
    exact h
  · rw [if_neg hx, if_neg hx]
    intro b hb
    by_cases e : b = a
    · subst e
      rw [pk_uLs, pk_uLs]
      obtain ⟨h1, h2, h3⟩ := h b hb
      obtain ⟨g1, g2⟩ := hq_s1_in h1 h2 d0 d1
      obtain ⟨q1, q2, _⟩ := hq_c0c_in x0 x1 (h3 hr).1 (h3 hr).2
      exact ⟨g1, g2, fun _ => ⟨q1, q2⟩⟩
    · rw [pk_uLn e, pk_uLn e]
      exact h b hb
theorem hq_d_in {g x : Int32} (g0 : -100000 ≤ g.toInt) (g1 : g.toInt ≤ 100000) (x0 : -99999 ≤ x.toInt) (x1 : x.toInt ≤ 99999) : -100000000 ≤ (((Int32.toInt64 g) * (Int32.toInt64 x)) / 100).toInt ∧ (((Int32.toInt64 g) * (Int32.toInt64 x)) / 100).toInt ≤ 100000000 := by
  have eh : (100 : Int64).toInt = 100 := by decide
  have hp : -9999900000 ≤ g.toInt * x.toInt ∧ g.toInt * x.toInt ≤ 9999900000 := by
    have a1 : (g.toInt * x.toInt).natAbs ≤ 100000 * 99999 := by
      rw [Int.natAbs_mul]
      exact Nat.mul_le_mul (by omega) (by omega)
    omega
  have e1 : ((Int32.toInt64 g) * (Int32.toInt64 x)).toInt = g.toInt * x.toInt := by
    rw [Jvm.Kit.i64_mul (by rw [Jvm.Kit.i64_of_i32, Jvm.Kit.i64_of_i32]; omega) (by rw [Jvm.Kit.i64_of_i32, Jvm.Kit.i64_of_i32]; omega), Jvm.Kit.i64_of_i32, Jvm.Kit.i64_of_i32]
  rw [Jvm.Kit.i64_div (by rw [eh]; omega), e1, eh]
  have a2 : ((g.toInt * x.toInt).tdiv 100).natAbs ≤ 9999900000 / 100 := by
    rw [Int.natAbs_tdiv]
    exact Nat.div_le_div_right (by omega)
  omega
