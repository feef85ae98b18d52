/-! Learning, as the reference does it. -/
def hq_mm1 (ru : Int32) (a : Nat) (x d : Int64) (S : (Nat → Int64) × (Nat → Int64) × (Nat → Int64)) : (Nat → Int64) × (Nat → Int64) × (Nat → Int64) :=
  if ru = 0 then (if x = 0 then vp_updL S.1 a (hq_m0w1 (S.1 a) (S.2.2 a) x) else vp_updL S.1 a (hq_m0w (S.1 a) (S.2.1 a) (S.2.2 a) x d), if x = 0 then S.2.1 else vp_updL S.2.1 a (hq_s1M (S.2.1 a) d), vp_updL S.2.2 a (hq_m0c (S.2.2 a) x))
  else (vp_updL S.1 a (hq_m1w (S.1 a) (S.2.1 a) (S.2.2 a) d), vp_updL S.2.1 a (hq_s1M (S.2.1 a) d), vp_updL S.2.2 a (hq_m1c (S.1 a) (S.2.1 a) (S.2.2 a) d))
def hq_mmA (ru : Int32) (n : Nat) (th tv : Nat → Int32) (g : Int64) : Nat → Nat → (Nat → Int64) × (Nat → Int64) × (Nat → Int64) → (Nat → Int64) × (Nat → Int64) × (Nat → Int64)
  | _, 0, S => S
  | k, m + 1, S => hq_mmA ru n th tv g (k + 1) m (hq_mm1 ru (hq_slot n (th k)) (Int32.toInt64 (tv k)) ((g * (Int32.toInt64 (tv k))) / 100) S)
section HQM8
variable {ru : Int32} {n : Nat} {th tv : Nat → Int32} {g : Int64} {k j : Nat} {S : (Nat → Int64) × (Nat → Int64) × (Nat → Int64)}
theorem hq_mmA_go (h : k < j) : hq_mmA ru n th tv g k (j - k) S = hq_mmA ru n th tv g (k + 1) (j - (k + 1)) (hq_mm1 ru (hq_slot n (th k)) (Int32.toInt64 (tv k)) ((g * (Int32.toInt64 (tv k))) / 100) S) := by
  rw [show j - k = (j - (k + 1)) + 1 by omega]
  rfl
theorem hq_mmA_end (h : ¬ k < j) : hq_mmA ru n th tv g k (j - k) S = S := by
  rw [show j - k = 0 by omega]
  rfl
end HQM8
def hq_lrn (ru : Int32) (n : Nat) (kd lb : Int32) (th tv : Nat → Int32) (q : Nat) : Nat → (Nat → Int64) × (Nat → Int64) × (Nat → Int64) → (Nat → Int64) × (Nat → Int64) × (Nat → Int64)
  | 0, S => S
  | m + 1, S => hq_lrn ru n kd lb th tv q m (hq_mmA ru n th tv (f_M_gradient kd lb (hq_prdM S.1 n th tv q)) 0 q S)
theorem hq_lrn_go {ru : Int32} {n : Nat} {kd lb : Int32} {th tv : Nat → Int32} {q m m1 : Nat} {S : (Nat → Int64) × (Nat → Int64) × (Nat → Int64)} (h : m1 < m) : hq_lrn ru n kd lb th tv q (m - m1) S = hq_lrn ru n kd lb th tv q (m - (m1 + 1)) (hq_mmA ru n th tv (f_M_gradient kd lb (hq_prdM S.1 n th tv q)) 0 q S) := by
  rw [show m - m1 = (m - (m1 + 1)) + 1 by omega]
  rfl
theorem hq_lrn_end {ru : Int32} {n : Nat} {kd lb : Int32} {th tv : Nat → Int32} {q m m1 : Nat} {S : (Nat → Int64) × (Nat → Int64) × (Nat → Int64)} (h : ¬ m1 < m) : hq_lrn ru n kd lb th tv q (m - m1) S = S := by
  rw [show m - m1 = 0 by omega]
  rfl
def hq_invM (ru : Int32) (n : Nat) (su sc : Nat → Int64) : Prop := ∀ a, a < n → 0 ≤ (su a).toInt ∧ (su a).toInt ≤ 10000000000000000 ∧ (ru = 0 → 0 ≤ (sc a).toInt ∧ (sc a).toInt ≤ 99999)
theorem hq_invM_r1 {ru : Int32} {n a : Nat} {su sc : Nat → Int64} {d c2 : Int64} (h : hq_invM ru n su sc) (ha : a < n) (d0 : -100000000 ≤ d.toInt) (d1 : d.toInt ≤ 100000000) (hr : ¬ ru = 0) : hq_invM ru n (vp_updL su a (hq_s1M (su a) d)) (vp_updL sc a c2) := by
  intro b hb
  by_cases e : b = a
  · subst e
    rw [pk_uLs]
    obtain ⟨h1, h2, _⟩ := h b hb
    obtain ⟨g1, g2⟩ := hq_s1M_in h1 h2 d0 d1
    exact ⟨g1, g2, fun h => absurd h hr⟩
  · rw [pk_uLn e, pk_uLn e]
    exact h b hb
theorem hq_invM_r0 {ru : Int32} {n a : Nat} {su sc : Nat → Int64} {d x : Int64} (h : hq_invM ru n su sc) (ha : a < n) (d0 : -100000000 ≤ d.toInt) (d1 : d.toInt ≤ 100000000) (hr : ru = 0) (x0 : -99999 ≤ x.toInt) (x1 : x.toInt ≤ 99999) : hq_invM ru n (if x = 0 then su else vp_updL su a (hq_s1M (su a) d)) (vp_updL sc a (hq_m0c (sc a) x)) := by
  intro b hb
  by_cases e : b = a
  · subst e
    rw [pk_uLs]
    obtain ⟨h1, h2, h3⟩ := h b hb
    obtain ⟨g1, g2⟩ := hq_s1M_in h1 h2 d0 d1
    obtain ⟨q1, q2, _⟩ := hq_m0c_in x0 x1 (h3 hr).1 (h3 hr).2
    by_cases hx : x = 0
    · rw [if_pos hx]; exact ⟨h1, h2, fun _ => ⟨q1, q2⟩⟩
    · rw [if_neg hx, pk_uLs]; exact ⟨g1, g2, fun _ => ⟨q1, q2⟩⟩
  · rw [pk_uLn e]
    by_cases hx : x = 0
    · rw [if_pos hx]; exact h b hb
    · rw [if_neg hx, pk_uLn e]; exact h b hb
theorem hq_dM_in {g : Int64} {x : Int32} (g0 : -100000 ≤ g.toInt) (g1 : g.toInt ≤ 100000) (x0 : -99999 ≤ x.toInt) (x1 : x.toInt ≤ 99999) : -100000000 ≤ ((g * (Int32.toInt64 x)) / 100).toInt ∧ ((g * (Int32.toInt64 x)) / 100).toInt ≤ 100000000 := by
  have e : Int32.toInt64 (Int64.toInt32 g) = g := by
    apply Int64.toInt_inj.mp
    rw [Jvm.Kit.i64_of_i32, Jvm.Kit.i32_of_i64 (by omega) (by omega)]
  have e2 : (Int64.toInt32 g).toInt = g.toInt := Jvm.Kit.i32_of_i64 (by omega) (by omega)
  have h := hq_d_in (g := Int64.toInt32 g) (x := x) (by omega) (by omega) x0 x1
  rw [e] at h
  exact h
theorem hq_gradM_in (kd lb : Int32) (p : Int64) : -100000 ≤ (f_M_gradient kd lb p).toInt ∧ (f_M_gradient kd lb p).toInt ≤ 100000 := by
  unfold f_M_gradient
  obtain ⟨a, b, _⟩ := hq_clip_bd (v := p - Int32.toInt64 lb) (m0 := 100000) (k := 100000) (by decide) (by decide)
  rw [hq_clipM]
  repeat' split
  all_goals first | exact ⟨a, b⟩ | decide
theorem hq_i64_32 {x : Int32} : (Int32.toInt64 x).toInt = x.toInt := Jvm.Kit.i64_of_i32 x
