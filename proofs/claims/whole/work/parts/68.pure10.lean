/-! Learner and reference: tables that say the same go on saying the same. -/
theorem hq_rt {v : Int64} (h0 : -2147483648 ≤ v.toInt) (h1 : v.toInt < 2147483648) : Int32.toInt64 (Int64.toInt32 v) = v := by
  apply Int64.toInt_inj.mp
  rw [Jvm.Kit.i64_of_i32, Jvm.Kit.i32_of_i64 (by omega) (by omega)]
theorem hq_clip_rt (v : Int64) : Int32.toInt64 (Int64.toInt32 (f_H_clip v 100000000)) = f_M_clip v 100000000 := by
  obtain ⟨a, b, _⟩ := hq_clip_bd (v := v) (m0 := 100000000) (k := 100000000) (by decide) (by decide)
  rw [hq_clipM, hq_rt (by omega) (by omega)]
theorem hq_m1c_eq (w : Int32) (su c d : Int64) : hq_m1c (Int32.toInt64 w) su c d = hq_c1c w su c d := by
  unfold hq_m1c hq_c1c
  rw [hq_clipM, hq_s1M_eq]
theorem hq_m1w_eq (w : Int32) (su c d : Int64) : hq_m1w (Int32.toInt64 w) su c d = Int32.toInt64 (hq_c1w w su c d) := by
  unfold hq_m1w hq_c1w
  rw [hq_m1c_eq, hq_s1M_eq]
  have hC : -1000000000000 ≤ (hq_c1c w su c d).toInt ∧ (hq_c1c w su c d).toInt ≤ 1000000000000 := by
    obtain ⟨a, b, _⟩ := hq_clip_bd (v := (c + d) - ((((hq_root (hq_s1 su d)) - (hq_root su)) * (Int32.toInt64 w)) / 5000)) (m0 := 1000000000000) (k := 1000000000000) (by decide) (by decide)
    exact ⟨a, b⟩
  generalize hq_c1c w su c d = C at *
  have e0 : (0 : Int64).toInt = 0 := by decide
  have e10 : (10 : Int64).toInt = 10 := by decide
  have em : (-10 : Int64).toInt = -10 := by decide
  have en : (-C).toInt = -C.toInt := Jvm.Kit.i64_neg (by omega)
  by_cases h1 : C ≤ 0
  · have a1 := Int64.le_iff_toInt_le.mp h1
    rw [e0] at a1
    have hn : ¬ 0 < C := Int64.not_lt.mpr h1
    rw [if_pos h1, if_neg hn, if_pos h1]
    by_cases h2 : C < -10
    · have a2 := Int64.lt_iff_toInt_lt.mp h2
      rw [em] at a2
      have h3 : 10 < -C := Int64.lt_iff_toInt_lt.mpr (by rw [e10, en]; omega)
      rw [if_pos h2, if_pos h3, hq_clip_rt]
    · have a2 : ¬ C.toInt < (-10 : Int64).toInt := fun h => h2 (Int64.lt_iff_toInt_lt.mpr h)
      rw [em] at a2
      have h3 : ¬ 10 < -C := fun h => by have := Int64.lt_iff_toInt_lt.mp h; rw [e10, en] at this; omega
      have h4 : ¬ 10 < C := fun h => by have := Int64.lt_iff_toInt_lt.mp h; rw [e10] at this; omega
      rw [if_neg h2, if_neg h4, if_neg h3]
      rfl
  · have a1 : ¬ C.toInt ≤ (0 : Int64).toInt := fun h => h1 (Int64.le_iff_toInt_le.mpr h)
    rw [e0] at a1
    have hn : 0 < C := Int64.not_le.mp h1
    have h2 : ¬ C < -10 := fun h => by have := Int64.lt_iff_toInt_lt.mp h; rw [em] at this; omega
    rw [if_neg h1, if_pos hn, if_neg h2, if_neg h1]
    by_cases h3 : 10 < C
    · rw [if_pos h3, if_pos h3, hq_clip_rt]
    · rw [if_neg h3, if_neg h3]
      rfl
theorem hq_mM_eq {x : Int32} (h0 : -99999 ≤ x.toInt) (h1 : x.toInt ≤ 99999) : hq_mM (Int32.toInt64 x) = hq_m x := by
  unfold hq_mM hq_m
  have ez : (0 : Int32).toInt = 0 := by decide
  have eZ : (0 : Int64).toInt = 0 := by decide
  by_cases h : 0 ≤ x
  · have a := Int32.le_iff_toInt_le.mp h
    rw [ez] at a
    have h2 : (0 : Int64) ≤ Int32.toInt64 x := Int64.le_iff_toInt_le.mpr (by rw [eZ, Jvm.Kit.i64_of_i32]; exact a)
    rw [if_pos h, if_pos h2]
  · have a : ¬ (0 : Int32).toInt ≤ x.toInt := fun h2 => h (Int32.le_iff_toInt_le.mpr h2)
    rw [ez] at a
    have h2 : ¬ (0 : Int64) ≤ Int32.toInt64 x := fun h3 => a (by have := Int64.le_iff_toInt_le.mp h3; rw [eZ, Jvm.Kit.i64_of_i32] at this; exact this)
    rw [if_neg h, if_neg h2]
    apply Int64.toInt_inj.mp
    rw [Jvm.Kit.i64_of_i32, Jvm.Kit.i32_sub (by omega) (by omega), Jvm.Kit.i64_neg (by rw [Jvm.Kit.i64_of_i32]; omega), Jvm.Kit.i64_of_i32, ez]
    omega
theorem hq_m0c_eq {c : Int64} {x : Int32} (h0 : -99999 ≤ x.toInt) (h1 : x.toInt ≤ 99999) : hq_m0c c (Int32.toInt64 x) = hq_c0c c x := by
  unfold hq_m0c hq_c0c
  rw [hq_mM_eq h0 h1]
theorem hq_m0w1_eq {w : Int32} {c : Int64} {x : Int32} (h0 : -99999 ≤ x.toInt) (h1 : x.toInt ≤ 99999) (w0 : -100000000 ≤ w.toInt) (w1 : w.toInt ≤ 100000000) (c0 : 0 ≤ c.toInt) (c1 : c.toInt ≤ 99999) : hq_m0w1 (Int32.toInt64 w) c (Int32.toInt64 x) = Int32.toInt64 (hq_c0w1 w c x) ∧ -100000000 ≤ (hq_c0w1 w c x).toInt ∧ (hq_c0w1 w c x).toInt ≤ 100000000 := by
  unfold hq_m0w1 hq_c0w1
  rw [hq_mM_eq h0 h1]
  by_cases h : hq_m x ≤ c
  · rw [if_pos h, if_pos h]
    exact ⟨rfl, w0, w1⟩
  · rw [if_neg h, if_neg h]
    have a : ¬ (hq_m x).toInt ≤ c.toInt := fun h2 => h (Int64.le_iff_toInt_le.mpr h2)
    have hm := hq_m_int h0 h1
    have hp : (w.toInt * c.toInt).natAbs ≤ w.toInt.natAbs * (hq_m x).toInt.natAbs := by
      rw [Int.natAbs_mul]
      exact Nat.mul_le_mul_left _ (by omega)
    have hb : (w.toInt * c.toInt).natAbs ≤ 100000000 * 99999 := by
      rw [Int.natAbs_mul]
      exact Nat.mul_le_mul (by omega) (by omega)
    have e1 : ((Int32.toInt64 w) * c).toInt = w.toInt * c.toInt := by rw [Jvm.Kit.i64_mul (by rw [Jvm.Kit.i64_of_i32]; omega) (by rw [Jvm.Kit.i64_of_i32]; omega), Jvm.Kit.i64_of_i32]
    have e2 : (((Int32.toInt64 w) * c) / (hq_m x)).toInt = (w.toInt * c.toInt).tdiv (hq_m x).toInt := by rw [Jvm.Kit.i64_div (by omega), e1]
    have hq : ((w.toInt * c.toInt).tdiv (hq_m x).toInt).natAbs ≤ w.toInt.natAbs := by
      rw [Int.natAbs_tdiv]
      exact Nat.div_le_of_le_mul (by rw [Nat.mul_comm]; exact hp)
    have hr : -100000000 ≤ (((Int32.toInt64 w) * c) / (hq_m x)).toInt ∧ (((Int32.toInt64 w) * c) / (hq_m x)).toInt ≤ 100000000 := by rw [e2]; omega
    rw [hq_rt (by omega) (by omega), Jvm.Kit.i32_of_i64 (by omega) (by omega)]
    exact ⟨rfl, hr.1, hr.2⟩
theorem hq_c0w_in (w : Int32) (su c : Int64) (x : Int32) (d : Int64) : -100000000 ≤ (hq_c0w w su c x d).toInt ∧ (hq_c0w w su c x d).toInt ≤ 100000000 := by
  unfold hq_c0w
  obtain ⟨a, b, _⟩ := hq_clip_bd (v := (Int32.toInt64 (hq_c0w1 w c x)) - ((500000 * d) / ((1 + (hq_root (hq_s1 su d))) * (hq_c0c c x)))) (m0 := 100000000) (k := 100000000) (by decide) (by decide)
  rw [Jvm.Kit.i32_of_i64 (by omega) (by omega)]
  exact ⟨a, b⟩
theorem hq_c1w_in (w : Int32) (su c d : Int64) : -100000000 ≤ (hq_c1w w su c d).toInt ∧ (hq_c1w w su c d).toInt ≤ 100000000 := by
  unfold hq_c1w
  have key : ∀ v : Int64, -100000000 ≤ (Int64.toInt32 (f_H_clip v 100000000)).toInt ∧ (Int64.toInt32 (f_H_clip v 100000000)).toInt ≤ 100000000 := by
    intro v
    obtain ⟨a, b, _⟩ := hq_clip_bd (v := v) (m0 := 100000000) (k := 100000000) (by decide) (by decide)
    rw [Jvm.Kit.i32_of_i64 (by omega) (by omega)]
    exact ⟨a, b⟩
  by_cases h1 : 10 < (if 0 < hq_c1c w su c d then hq_c1c w su c d else -hq_c1c w su c d)
  · rw [if_pos h1]
    by_cases h2 : hq_c1c w su c d ≤ 0
    · rw [if_pos h2]; exact key _
    · rw [if_neg h2]; exact key _
  · rw [if_neg h1]; decide
theorem hq_m0w_eq {w : Int32} {su c : Int64} {x : Int32} {d : Int64} (h0 : -99999 ≤ x.toInt) (h1 : x.toInt ≤ 99999) (w0 : -100000000 ≤ w.toInt) (w1 : w.toInt ≤ 100000000) (c0 : 0 ≤ c.toInt) (c1 : c.toInt ≤ 99999) : hq_m0w (Int32.toInt64 w) su c (Int32.toInt64 x) d = Int32.toInt64 (hq_c0w w su c x d) := by
  unfold hq_m0w hq_c0w
  rw [(hq_m0w1_eq h0 h1 w0 w1 c0 c1).1, hq_s1M_eq, hq_m0c_eq h0 h1, hq_clip_rt]
/-- the learner's table and the reference's -/
def hq_tabR (n : Nat) (S : (Nat → Int32) × (Nat → Int64) × (Nat → Int64)) (T : (Nat → Int64) × (Nat → Int64) × (Nat → Int64)) : Prop := ∀ a, a < n → T.1 a = Int32.toInt64 (S.1 a) ∧ T.2.1 a = S.2.1 a ∧ T.2.2 a = S.2.2 a ∧ -100000000 ≤ (S.1 a).toInt ∧ (S.1 a).toInt ≤ 100000000
theorem hq_i64z {x : Int32} : Int32.toInt64 x = 0 ↔ x = 0 := by
  constructor
  · intro h
    apply Int32.toInt_inj.mp
    have := congrArg Int64.toInt h
    rw [Jvm.Kit.i64_of_i32] at this
    exact this
  · intro h; rw [h]; rfl
theorem hq_tabR_1 {ru : Int32} {n b : Nat} {x : Int32} {d : Int64} {S : (Nat → Int32) × (Nat → Int64) × (Nat → Int64)} {T : (Nat → Int64) × (Nat → Int64) × (Nat → Int64)} (hr : ru = 0 ∨ ru = 1) (h : hq_tabR n S T) (hi : hq_inv ru n S.2.1 S.2.2) (hb : b < n) (x0 : -99999 ≤ x.toInt) (x1 : x.toInt ≤ 99999) : hq_tabR n (hq_mv1 ru b x d S) (hq_mm1 ru b (Int32.toInt64 x) d T) := by
  obtain ⟨e1, e2, e3, w0, w1⟩ := h b hb
  intro a ha
  obtain ⟨f1, f2, f3, f4, f5⟩ := h a ha
  unfold hq_mv1 hq_mm1
  rcases hr with rfl | rfl
  · rw [if_neg (show ¬ (0 : Int32) = 1 by decide), if_pos (show (0 : Int32) = 0 from rfl)]
    obtain ⟨c0, c1⟩ := (hi b hb).2.2 (by decide)
    by_cases hx : x = 0
    · have hX := hq_i64z.mpr hx
      rw [if_pos hx, if_pos hx, if_pos hx, if_pos hX, if_pos hX]
      by_cases hab : a = b
      · subst hab
        have hle : hq_m x ≤ S.2.2 a := by
          rw [hx]
          apply Int64.le_iff_toInt_le.mpr
          exact c0
        have q1 := (hq_m0w1_eq (w := S.1 a) (c := S.2.2 a) x0 x1 w0 w1 c0 c1).1
        show vp_updL T.1 a _ a = _ ∧ T.2.1 a = _ ∧ vp_updL T.2.2 a _ a = _ ∧ _
        rw [pk_uLs, pk_uLs, e1, e3, q1, hq_m0c_eq x0 x1]
        unfold hq_c0w1 hq_c0c
        rw [if_pos hle, if_pos hle]
        exact ⟨rfl, e2, rfl, w0, w1⟩
      · show vp_updL T.1 b _ a = _ ∧ T.2.1 a = _ ∧ vp_updL T.2.2 b _ a = _ ∧ _
        rw [pk_uLn hab, pk_uLn hab]
        exact ⟨f1, f2, f3, f4, f5⟩
    · have hX : ¬ Int32.toInt64 x = 0 := fun h9 => hx (hq_i64z.mp h9)
      rw [if_neg hx, if_neg hx, if_neg hx, if_neg hX, if_neg hX]
      by_cases hab : a = b
      · subst hab
        show vp_updL T.1 a _ a = Int32.toInt64 (upd S.1 a _ a) ∧ vp_updL T.2.1 a _ a = vp_updL S.2.1 a _ a ∧ vp_updL T.2.2 a _ a = vp_updL S.2.2 a _ a ∧ -100000000 ≤ (upd S.1 a _ a).toInt ∧ (upd S.1 a _ a).toInt ≤ 100000000
        rw [pk_uLs, pk_uLs, pk_uLs, pk_uLs, pk_uLs, pk_us, e1, e2, e3, hq_m0w_eq x0 x1 w0 w1 c0 c1, hq_s1M_eq, hq_m0c_eq x0 x1]
        exact ⟨rfl, rfl, rfl, hq_c0w_in _ _ _ _ _⟩
      · show vp_updL T.1 b _ a = Int32.toInt64 (upd S.1 b _ a) ∧ vp_updL T.2.1 b _ a = vp_updL S.2.1 b _ a ∧ vp_updL T.2.2 b _ a = vp_updL S.2.2 b _ a ∧ -100000000 ≤ (upd S.1 b _ a).toInt ∧ (upd S.1 b _ a).toInt ≤ 100000000
        rw [pk_uLn hab, pk_uLn hab, pk_uLn hab, pk_uLn hab, pk_uLn hab, pk_un hab]
        exact ⟨f1, f2, f3, f4, f5⟩
  · rw [if_pos (show (1 : Int32) = 1 from rfl), if_neg (show ¬ (1 : Int32) = 0 by decide)]
    by_cases hab : a = b
    · subst hab
      show vp_updL T.1 a _ a = Int32.toInt64 (upd S.1 a _ a) ∧ vp_updL T.2.1 a _ a = vp_updL S.2.1 a _ a ∧ vp_updL T.2.2 a _ a = vp_updL S.2.2 a _ a ∧ -100000000 ≤ (upd S.1 a _ a).toInt ∧ (upd S.1 a _ a).toInt ≤ 100000000
      rw [pk_uLs, pk_uLs, pk_uLs, pk_uLs, pk_uLs, pk_us, e1, e2, e3, hq_m1w_eq, hq_s1M_eq, hq_m1c_eq]
      exact ⟨rfl, rfl, rfl, hq_c1w_in _ _ _ _⟩
    · show vp_updL T.1 b _ a = Int32.toInt64 (upd S.1 b _ a) ∧ vp_updL T.2.1 b _ a = vp_updL S.2.1 b _ a ∧ vp_updL T.2.2 b _ a = vp_updL S.2.2 b _ a ∧ -100000000 ≤ (upd S.1 b _ a).toInt ∧ (upd S.1 b _ a).toInt ≤ 100000000
      rw [pk_uLn hab, pk_uLn hab, pk_uLn hab, pk_uLn hab, pk_uLn hab, pk_un hab]
      exact ⟨f1, f2, f3, f4, f5⟩
