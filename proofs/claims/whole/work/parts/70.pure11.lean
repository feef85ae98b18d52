/-! Predictions, gradients, costs, accounts: learner and reference. -/
theorem hq_prML_eq {n : Nat} (hn : hq_pow n) {w : Nat → Int32} {V : Nat → Int64} (h : ∀ a, a < n → V a = Int32.toInt64 (w a)) : ∀ (T : List (Int32 × Int32)) (v : Int64), hq_prML V n T v = hq_prSL w n T v := by
  intro T
  induction T with
  | nil => intro v; rfl
  | cons x T ih =>
    intro v
    show hq_prML V n T (v + (V (hq_slot n x.1)) * (Int32.toInt64 x.2)) = hq_prSL w n T (v + (Int32.toInt64 (w (hq_slot n x.1))) * (Int32.toInt64 x.2))
    rw [h _ (hq_slot_lt hn x.1), ih]
theorem hq_prd_eq {n : Nat} (hn : hq_pow n) {w : Nat → Int32} {V : Nat → Int64} (h : ∀ a, a < n → V a = Int32.toInt64 (w a)) (T : List (Int32 × Int32)) : hq_prdML V n T = Int32.toInt64 (hq_prdL w n T) ∧ -1000000 ≤ (hq_prdL w n T).toInt ∧ (hq_prdL w n T).toInt ≤ 1000000 := by
  obtain ⟨a, b, _⟩ := hq_clip_bd (v := (hq_prSL w n T 0) / 10000) (m0 := 1000000) (k := 1000000) (by decide) (by decide)
  unfold hq_prdML hq_prdL
  rw [hq_prML_eq hn h, hq_clipM]
  have e := hq_rt (v := f_H_clip ((hq_prSL w n T 0) / 10000) 1000000) (by omega) (by omega)
  have e2 := Jvm.Kit.i32_of_i64 (x := f_H_clip ((hq_prSL w n T 0) / 10000) 1000000) (by omega) (by omega)
  rw [e, e2]
  exact ⟨rfl, a, b⟩
theorem hq_prd_32 {n : Nat} (hn : hq_pow n) {w : Nat → Int32} {V : Nat → Int64} (h : ∀ a, a < n → V a = Int32.toInt64 (w a)) (T : List (Int32 × Int32)) : Int64.toInt32 (hq_prdML V n T) = hq_prdL w n T := by
  rw [(hq_prd_eq hn h T).1]
  exact Int32.toInt32_toInt64 _
section HQGR
variable {kd lb p : Int32}
theorem hq_pl_sub (l0 : -99999 ≤ lb.toInt) (l1 : lb.toInt ≤ 99999) (p0 : -1000000 ≤ p.toInt) (p1 : p.toInt ≤ 1000000) : (p - lb).toInt = p.toInt - lb.toInt ∧ Int32.toInt64 p - Int32.toInt64 lb = Int32.toInt64 (p - lb) := by
  have es : (p - lb).toInt = p.toInt - lb.toInt := Jvm.Kit.i32_sub (by omega) (by omega)
  refine ⟨es, Int64.toInt_inj.mp ?_⟩
  have q1 := Jvm.Kit.i64_of_i32 p
  have q2 := Jvm.Kit.i64_of_i32 lb
  rw [Jvm.Kit.i64_sub (x := Int32.toInt64 p) (y := Int32.toInt64 lb) (by omega) (by omega), Jvm.Kit.i64_of_i32, Jvm.Kit.i64_of_i32, Jvm.Kit.i64_of_i32, es]
theorem hq_sd {q : Int32} (hq : q.toInt = 1 ∨ q.toInt = -1) (p0 : -1000000 ≤ p.toInt) (p1 : p.toInt ≤ 1000000) : (q * p).toInt = q.toInt * p.toInt ∧ Int32.toInt64 q * Int32.toInt64 p = Int32.toInt64 (q * p) ∧ -1000000 ≤ (q * p).toInt ∧ (q * p).toInt ≤ 1000000 := by
  have hb : -1000000 ≤ q.toInt * p.toInt ∧ q.toInt * p.toInt ≤ 1000000 := by
    rcases hq with h | h
    · rw [h]; omega
    · rw [h]; omega
  have es : (q * p).toInt = q.toInt * p.toInt := Jvm.Kit.i32_mul (by omega) (by omega)
  have q1 := Jvm.Kit.i64_of_i32 q
  have q2 := Jvm.Kit.i64_of_i32 p
  refine ⟨es, Int64.toInt_inj.mp ?_, by omega, by omega⟩
  rw [Jvm.Kit.i64_mul (x := Int32.toInt64 q) (y := Int32.toInt64 p) (by rw [q1, q2]; omega) (by rw [q1, q2]; omega), Jvm.Kit.i64_of_i32, Jvm.Kit.i64_of_i32, Jvm.Kit.i64_of_i32, es]
theorem hq_lt64 {a b : Int32} : Int32.toInt64 a < Int32.toInt64 b ↔ a < b := by rw [Int64.lt_iff_toInt_lt, Int32.lt_iff_toInt_lt, Jvm.Kit.i64_of_i32, Jvm.Kit.i64_of_i32]
theorem hq_le64 {a b : Int32} : Int32.toInt64 a ≤ Int32.toInt64 b ↔ a ≤ b := by rw [Int64.le_iff_toInt_le, Int32.le_iff_toInt_le, Jvm.Kit.i64_of_i32, Jvm.Kit.i64_of_i32]
theorem hq_grad_eq (hk : kd = 0 ∨ kd = 1 ∨ kd = 2) (l0 : -99999 ≤ lb.toInt) (l1 : lb.toInt ≤ 99999) (p0 : -1000000 ≤ p.toInt) (p1 : p.toInt ≤ 1000000) : f_M_gradient kd lb (Int32.toInt64 p) = Int32.toInt64 (f_Loss_gradientOf kd p lb) := by
  obtain ⟨es, eS⟩ := hq_pl_sub l0 l1 p0 p1
  have ez : (0 : Int32).toInt = 0 := by decide
  unfold f_M_gradient f_Loss_gradientOf
  rcases hk with rfl | rfl | rfl
  · rw [if_pos rfl, if_neg (by decide), if_neg (by decide), eS, hq_clipM]
    obtain ⟨a, b, _⟩ := hq_clip_bd (v := Int32.toInt64 (p - lb)) (m0 := 100000) (k := 100000) (by decide) (by decide)
    exact (hq_rt (v := f_H_clip (Int32.toInt64 (p - lb)) 100000) (by omega) (by omega)).symm
  · rw [if_neg (by decide), if_pos rfl, if_pos rfl]
    by_cases hl : lb < 0
    · have e1 : f_Loss_sideOf lb = -1 := by unfold f_Loss_sideOf; rw [if_pos hl]
      obtain ⟨q1, q2, q3, q4⟩ := hq_sd (q := -1) (p := p) (Or.inr (by decide)) p0 p1
      rw [if_pos hl, e1, q2]
      by_cases h : (-1) * p < 100
      · rw [if_pos h, if_pos (show Int32.toInt64 (-1 * p) < 100 from hq_lt64 (b := 100) |>.mpr h)]
      · rw [if_neg h, if_neg (show ¬ Int32.toInt64 (-1 * p) < 100 from fun h9 => h (hq_lt64 (b := 100) |>.mp h9))]
        rfl
    · have e1 : f_Loss_sideOf lb = 1 := by unfold f_Loss_sideOf; rw [if_neg hl]
      obtain ⟨q1, q2, q3, q4⟩ := hq_sd (q := 1) (p := p) (Or.inl (by decide)) p0 p1
      rw [if_neg hl, e1, q2]
      by_cases h : 1 * p < 100
      · rw [if_pos h, if_pos (show Int32.toInt64 (1 * p) < 100 from hq_lt64 (b := 100) |>.mpr h)]
      · rw [if_neg h, if_neg (show ¬ Int32.toInt64 (1 * p) < 100 from fun h9 => h (hq_lt64 (b := 100) |>.mp h9))]
        rfl
  · rw [if_neg (show ¬ (2 : Int32) = 0 by decide), if_neg (show ¬ (2 : Int32) = 1 by decide), if_pos (show (2 : Int32) = 2 from rfl)]
    by_cases h : p ≤ lb
    · have a := Int32.le_iff_toInt_le.mp h
      have h2 : p - lb ≤ 0 := Int32.le_iff_toInt_le.mpr (by rw [es, ez]; omega)
      rw [if_pos (hq_le64.mpr h), if_pos h2]
      by_cases h3 : lb ≤ p
      · have b := Int32.le_iff_toInt_le.mp h3
        have h4 : 0 ≤ p - lb := Int32.le_iff_toInt_le.mpr (by rw [es, ez]; omega)
        rw [if_pos (hq_le64.mpr h3), if_pos h4]
        rfl
      · have h4 : ¬ 0 ≤ p - lb := fun h9 => h3 (by have := Int32.le_iff_toInt_le.mp h9; rw [es, ez] at this; exact Int32.le_iff_toInt_le.mpr (by omega))
        rw [if_neg (fun h9 => h3 (hq_le64.mp h9)), if_neg h4]
        rfl
    · have h2 : ¬ p - lb ≤ 0 := fun h9 => h (by have := Int32.le_iff_toInt_le.mp h9; rw [es, ez] at this; exact Int32.le_iff_toInt_le.mpr (by omega))
      rw [if_neg (fun h9 => h (hq_le64.mp h9)), if_neg h2]
      rfl
theorem hq_cost_eq (hk : kd = 0 ∨ kd = 1 ∨ kd = 2) (l0 : -99999 ≤ lb.toInt) (l1 : lb.toInt ≤ 99999) (p0 : -1000000 ≤ p.toInt) (p1 : p.toInt ≤ 1000000) : f_M_cost kd lb (Int32.toInt64 p) = f_Loss_costOf kd p lb := by
  unfold f_M_cost f_Loss_costOf
  have e0 : (0 : Int32).toInt = 0 := by decide
  have eh : (100 : Int32).toInt = 100 := by decide
  have eZ : (0 : Int64).toInt = 0 := by decide
  have eH : (100 : Int64).toInt = 100 := by decide
  have qp := Jvm.Kit.i64_of_i32 p
  rcases hk with rfl | rfl | rfl
  · rw [if_pos rfl, if_neg (by decide), if_neg (by decide)]
  · rw [if_neg (by decide), if_pos rfl, if_pos rfl]
    by_cases hl : lb < 0
    · have e1 : f_Loss_sideOf lb = -1 := by unfold f_Loss_sideOf; rw [if_pos hl]
      obtain ⟨q1, q2, q3, q4⟩ := hq_sd (q := -1) (p := p) (Or.inr (by decide)) p0 p1
      have em : (-1 : Int32).toInt = -1 := by decide
      rw [if_pos hl, e1]
      have s1 : (100 - (-1) * p).toInt = 100 + p.toInt := by rw [Jvm.Kit.i32_sub (x := 100) (y := (-1) * p) (by omega) (by omega), q1, eh, em]; omega
      have n1 : (-(Int32.toInt64 p)).toInt = -p.toInt := by rw [Jvm.Kit.i64_neg (x := Int32.toInt64 p) (by omega), qp]
      have s2 : (100 - (-(Int32.toInt64 p))).toInt = 100 + p.toInt := by rw [Jvm.Kit.i64_sub (x := 100) (y := -(Int32.toInt64 p)) (by omega) (by omega), n1, eH]; omega
      have s3 : (100 - (-(Int32.toInt64 p))) = Int32.toInt64 (100 - (-1) * p) := Int64.toInt_inj.mp (by rw [s2, Jvm.Kit.i64_of_i32, s1])
      rw [s3]
      by_cases h : 0 < 100 - (-1) * p
      · have h2 : ¬ Int32.toInt64 (100 - (-1) * p) ≤ 0 := fun h9 => by
          have := Int64.le_iff_toInt_le.mp h9
          have h8 := Int32.lt_iff_toInt_lt.mp h
          rw [Jvm.Kit.i64_of_i32, eZ] at this
          omega
        rw [if_pos h, if_neg h2]
      · have h2 : Int32.toInt64 (100 - (-1) * p) ≤ 0 := Int64.le_iff_toInt_le.mpr (by
          have h8 : ¬ (0 : Int32).toInt < (100 - (-1) * p).toInt := fun h9 => h (Int32.lt_iff_toInt_lt.mpr h9)
          rw [Jvm.Kit.i64_of_i32, eZ]
          omega)
        rw [if_neg h, if_pos h2]
        rfl
    · have e1 : f_Loss_sideOf lb = 1 := by unfold f_Loss_sideOf; rw [if_neg hl]
      obtain ⟨q1, q2, q3, q4⟩ := hq_sd (q := 1) (p := p) (Or.inl (by decide)) p0 p1
      have em : (1 : Int32).toInt = 1 := by decide
      rw [if_neg hl, e1]
      have s1 : (100 - 1 * p).toInt = 100 - p.toInt := by rw [Jvm.Kit.i32_sub (x := 100) (y := 1 * p) (by omega) (by omega), q1, eh, em]; omega
      have s2 : (100 - (Int32.toInt64 p)).toInt = 100 - p.toInt := by rw [Jvm.Kit.i64_sub (x := 100) (y := Int32.toInt64 p) (by omega) (by omega), qp, eH]
      have s3 : (100 - (Int32.toInt64 p)) = Int32.toInt64 (100 - 1 * p) := Int64.toInt_inj.mp (by rw [s2, Jvm.Kit.i64_of_i32, s1])
      rw [s3]
      by_cases h : 0 < 100 - 1 * p
      · have h2 : ¬ Int32.toInt64 (100 - 1 * p) ≤ 0 := fun h9 => by
          have := Int64.le_iff_toInt_le.mp h9
          have h8 := Int32.lt_iff_toInt_lt.mp h
          rw [Jvm.Kit.i64_of_i32, eZ] at this
          omega
        rw [if_pos h, if_neg h2]
      · have h2 : Int32.toInt64 (100 - 1 * p) ≤ 0 := Int64.le_iff_toInt_le.mpr (by
          have h8 : ¬ (0 : Int32).toInt < (100 - 1 * p).toInt := fun h9 => h (Int32.lt_iff_toInt_lt.mpr h9)
          rw [Jvm.Kit.i64_of_i32, eZ]
          omega)
        rw [if_neg h, if_pos h2]
        rfl
  · rw [if_neg (show ¬ (2 : Int32) = 0 by decide), if_neg (show ¬ (2 : Int32) = 1 by decide), if_neg (show ¬ (2 : Int32) = 1 by decide), if_pos (show (2 : Int32) = 2 from rfl)]
end HQGR
/-- a table is moved by a list of terms; it is taught an example -/
theorem hq_tabR_L {ru : Int32} {n : Nat} (hn : hq_pow n) (hr : ru = 0 ∨ ru = 1) {g : Int32} (g0 : -100000 ≤ g.toInt) (g1 : g.toInt ≤ 100000) : ∀ (T : List (Int32 × Int32)) (S : (Nat → Int32) × (Nat → Int64) × (Nat → Int64)) (V : (Nat → Int64) × (Nat → Int64) × (Nat → Int64)), hq_tok T → hq_inv ru n S.2.1 S.2.2 → hq_tabR n S V → hq_tabR n (hq_mvL ru n g T S) (hq_mmL ru n (Int32.toInt64 g) T V) := by
  intro T
  induction T with
  | nil => intro S V _ _ h; exact h
  | cons x T ih =>
    intro S V ht hi h
    obtain ⟨x0, x1⟩ := ht x List.mem_cons_self
    obtain ⟨d0, d1⟩ := hq_d_in g0 g1 x0 x1
    exact ih _ _ (fun y hy => ht y (List.mem_cons_of_mem _ hy)) (hq_inv_mv1 hi (hq_slot_lt hn _) d0 d1 x0 x1) (hq_tabR_1 hr h hi (hq_slot_lt hn _) x0 x1)
theorem hq_tabR_t {ru : Int32} {n : Nat} (hn : hq_pow n) (hr : ru = 0 ∨ ru = 1) {kd lb : Int32} (hk : kd = 0 ∨ kd = 1 ∨ kd = 2) (l0 : -99999 ≤ lb.toInt) (l1 : lb.toInt ≤ 99999) {T : List (Int32 × Int32)} (ht : hq_tok T) : ∀ m (S : (Nat → Int32) × (Nat → Int64) × (Nat → Int64)) (V : (Nat → Int64) × (Nat → Int64) × (Nat → Int64)), hq_inv ru n S.2.1 S.2.2 → hq_tabR n S V → hq_tabR n (hq_tch ru n kd lb T m S) (hq_lrnL ru n kd lb T m V) := by
  intro m
  induction m with
  | zero => intro S V _ h; exact h
  | succ m ih =>
    intro S V hi h
    obtain ⟨e, p0, p1⟩ := hq_prd_eq hn (w := S.1) (V := V.1) (fun a ha => (h a ha).1) T
    obtain ⟨g0, g1⟩ := hq_grad_in kd (hq_prdL S.1 n T) lb
    have eg : f_M_gradient kd lb (hq_prdML V.1 n T) = Int32.toInt64 (f_Loss_gradientOf kd (hq_prdL S.1 n T) lb) := by rw [e]; exact hq_grad_eq hk l0 l1 p0 p1
    show hq_tabR n (hq_tch ru n kd lb T m (hq_mvL ru n (f_Loss_gradientOf kd (hq_prdL S.1 n T) lb) T S)) (hq_lrnL ru n kd lb T m (hq_mmL ru n (f_M_gradient kd lb (hq_prdML V.1 n T)) T V))
    rw [eg]
    exact ih _ _ (hq_inv_mvL hn g0 g1 T S ht hi) (hq_tabR_L hn hr g0 g1 T S V ht hi h)
theorem hq_invM_of {ru : Int32} {n : Nat} (hr : ru = 0 ∨ ru = 1) {S : (Nat → Int32) × (Nat → Int64) × (Nat → Int64)} {V : (Nat → Int64) × (Nat → Int64) × (Nat → Int64)} (hi : hq_inv ru n S.2.1 S.2.2) (h : hq_tabR n S V) : hq_invM ru n V.2.1 V.2.2 := by
  intro a ha
  obtain ⟨e1, e2, e3, _⟩ := h a ha
  obtain ⟨i1, i2, i3⟩ := hi a ha
  rw [e2, e3]
  refine ⟨i1, i2, fun h0 => i3 ?_⟩
  rw [h0]; decide
/-- the accounts -/
def hq_np : Nat → Nat
  | 0 => 0
  | n + 1 => if (nI (n + 1) &&& (nI (n + 1) - 1)) = 0 then hq_np n + 1 else hq_np n
theorem hq_np_le : ∀ n m, hq_np n ≤ hq_np (n + m) := by
  intro n m
  induction m with
  | zero => exact Nat.le_refl _
  | succ m ih =>
    show hq_np n ≤ (if (nI (n + m + 1) &&& (nI (n + m + 1) - 1)) = 0 then hq_np (n + m) + 1 else hq_np (n + m))
    by_cases h : (nI (n + m + 1) &&& (nI (n + m + 1) - 1)) = 0
    · rw [if_pos h]; omega
    · rw [if_neg h]; exact ih
theorem hq_np_512 : hq_np 512 ≤ 10 := by decide +kernel
theorem hq_np_10 {n : Nat} (h : n ≤ 512) : hq_np n ≤ 10 := by
  have := hq_np_le n (512 - n)
  rw [show n + (512 - n) = 512 by omega] at this
  exact Nat.le_trans this hq_np_512
theorem hq_acc_eq {rp : Nat → Int64} {rc : Nat} {tt cs is co pr : Int64} {es im kd lb : Int32} (hc : f_M_cost kd lb pr = co) (he : ¬ (es + 1) ≤ 0) (hr : ¬ 31 ≤ rc) (hp : ¬ (is + (Int32.toInt64 im)) ≤ 0) :
    f_M_account_o3 kd lb im tt es cs is rc rp pr = f_Tally_count_o4 rp rc tt es cs is co im ∧ f_M_account_o4 kd lb im tt es cs is rc rp pr = f_Tally_count_o5 rp rc tt es cs is co im ∧ f_M_account_o5 kd lb im tt es cs is rc rp pr = f_Tally_count_o1 rp rc tt es cs is co im ∧ f_M_account_o6 kd lb im tt es cs is rc rp pr = f_Tally_count_o6 rp rc tt es cs is co im := by
  unfold f_M_account_o3 f_M_account_o4 f_M_account_o5 f_M_account_o6 f_Tally_count_o1 f_Tally_count_o4 f_Tally_count_o5 f_Tally_count_o6 f_Tally_isPowerOfTwo f_Tally_addReport_o4
  rw [hc, if_neg he]
  by_cases h : ((es + 1) &&& ((es + 1) - 1)) = 0
  · simp only [if_pos h, if_neg hr, if_neg hp, if_true]
    exact ⟨by first | rfl | trivial, by first | rfl | trivial, by first | rfl | trivial, by first | rfl | trivial⟩
  · simp only [if_neg h, Bool.false_eq_true, if_false]
    exact ⟨by first | rfl | trivial, by first | rfl | trivial, by first | rfl | trivial, by first | rfl | trivial⟩
theorem hq_np_s {rp : Nat → Int64} {n : Nat} {tt cs is co : Int64} {im : Int32} (hn : n < 512) : f_Tally_count_o1 rp (hq_np n) tt (nI n) cs is co im = hq_np (n + 1) := by
  have h10 := hq_np_10 (n := n) (by omega)
  unfold f_Tally_count_o1 f_Tally_isPowerOfTwo
  rw [← nI_succ, if_neg (show ¬ nI (n + 1) ≤ 0 from Int32.not_le.mpr (nI_ltI (a := 0) (b := n + 1) (by omega) (by omega) |>.mpr (by omega)))]
  show _ = (if (nI (n + 1) &&& (nI (n + 1) - 1)) = 0 then hq_np n + 1 else hq_np n)
  by_cases h : (nI (n + 1) &&& (nI (n + 1) - 1)) = 0
  · rw [if_pos h, if_pos h, if_pos rfl, if_neg (by omega)]
  · rw [if_neg h, if_neg h, if_neg (by decide)]
/-- the sum of the importances since the last report -/
def hq_isok (n : Nat) (is : Int64) : Prop := 0 ≤ is.toInt ∧ is.toInt ≤ 5 * n
theorem hq_isok_im {n m : Nat} {is : Int64} (h : hq_isok n is) (hn : n < 1000) (m0 : 1 ≤ m) (m1 : m ≤ 5) : ¬ (is + (Int32.toInt64 (nI m))) ≤ 0 ∧ ¬ (is + (Int32.toInt64 (nI m))) = 0 ∧ (is + (Int32.toInt64 (nI m))).toInt = is.toInt + m := by
  obtain ⟨h1, h2⟩ := h
  have e1 : (Int32.toInt64 (nI m)).toInt = m := by rw [Jvm.Kit.i64_of_i32, nI_toInt (by omega)]
  have e2 : (is + (Int32.toInt64 (nI m))).toInt = is.toInt + m := by rw [Jvm.Kit.i64_add (x := is) (y := Int32.toInt64 (nI m)) (by omega) (by omega), e1]
  have eZ : (0 : Int64).toInt = 0 := by decide
  refine ⟨fun h9 => ?_, fun h9 => ?_, e2⟩
  · have := Int64.le_iff_toInt_le.mp h9
    rw [e2, eZ] at this
    omega
  · rw [h9, eZ] at e2
    omega
theorem hq_isok_s {rp : Nat → Int64} {n m : Nat} {tt cs is co : Int64} {rc : Nat} (h : hq_isok n is) (hn : n < 1000) (m0 : 1 ≤ m) (m1 : m ≤ 5) : hq_isok (n + 1) (f_Tally_count_o5 rp rc tt (nI n) cs is co (nI m)) := by
  obtain ⟨_, _, e⟩ := hq_isok_im h hn m0 m1
  obtain ⟨h1, h2⟩ := h
  have eZ : (0 : Int64).toInt = 0 := by decide
  have a : hq_isok (n + 1) (is + Int32.toInt64 (nI m)) := ⟨by omega, by omega⟩
  have b : hq_isok (n + 1) 0 := ⟨by omega, by omega⟩
  unfold f_Tally_count_o5
  by_cases q1 : f_Tally_isPowerOfTwo (nI n + 1) = true
  · rw [if_pos q1]
    by_cases q2 : 31 ≤ rc
    · rw [if_pos q2]; exact a
    · rw [if_neg q2]; exact b
  · rw [if_neg q1]; exact a
/-- typing -/
theorem hq_write_eq (t : Nat → Int32) (len : Nat) (ch : Int32) : f_M_write t len ch = f_Line_append t len ch ∧ f_M_write_o1 t len ch = f_Line_append_o1 t len ch ∧ f_M_write_o2 t len ch = f_Line_append_o2 t len ch := by
  unfold f_M_write f_M_write_o1 f_M_write_o2 f_Line_append f_Line_append_o1 f_Line_append_o2 f_H_isTypeable
  by_cases h1 : ch < 32
  · simp only [if_pos h1, Bool.false_eq_true, if_false]
    exact ⟨by first | rfl | trivial, by first | rfl | trivial, by first | rfl | trivial⟩
  · by_cases h2 : 126 < ch
    · simp only [if_neg h1, if_pos h2, Bool.false_eq_true, if_false]
      exact ⟨by first | rfl | trivial, by first | rfl | trivial, by first | rfl | trivial⟩
    · simp only [if_neg h1, if_neg h2, if_true]
      exact ⟨by first | rfl | trivial, by first | rfl | trivial, by first | rfl | trivial⟩
theorem hq_write_ok {t : Nat → Int32} {len : Nat} {ch : Int32} (hlen : len ≤ 100) (ht : ∀ q, q < len → hq_ch (t q)) : f_Line_append_o1 t len ch ≤ 100 ∧ ∀ q, q < f_Line_append_o1 t len ch → hq_ch (f_Line_append_o2 t len ch q) := by
  unfold f_Line_append_o1 f_Line_append_o2
  by_cases h : f_H_isTypeable ch = true
  · rw [if_pos h, if_pos h]
    by_cases h2 : len < 100
    · rw [if_pos h2, if_pos h2]
      refine ⟨by omega, fun q hq => ?_⟩
      by_cases e : q = len
      · rw [e, pk_us]
        unfold f_H_isTypeable at h
        by_cases h3 : ch < 32
        · rw [if_pos h3] at h; cases h
        · by_cases h4 : 126 < ch
          · rw [if_neg h3, if_pos h4] at h; cases h
          · exact ⟨Int32.not_lt.mp h3, Int32.not_lt.mp h4⟩
      · rw [pk_un e]; exact ht q (by omega)
    · rw [if_neg h2, if_neg h2]; exact ⟨hlen, ht⟩
  · rw [if_neg h, if_neg h]; exact ⟨hlen, ht⟩
/-- the crossings stay different -/
theorem hq_hasP_all {f g : Nat → Int32} {x y : Int32} : ∀ n a, ¬ hq_hasP f g x y a n = true → ∀ i, a ≤ i → i < a + n → ¬ (f i = x ∧ g i = y) := by
  intro n
  induction n with
  | zero => intro a _ i h1 h2; omega
  | succ n ih =>
    intro a h i h1 h2 h3
    by_cases e : i = a
    · apply h
      rw [← e]
      simp [hq_hasP, h3.1, h3.2]
    · exact ih (a + 1) (fun h9 => h (by simp [hq_hasP, h9])) i (by omega) (by omega) h3
theorem hq_cross_ok {cl cr : Nat → Int32} {nc : Nat} {cd : Bool} {x y : Int32} (hnc : nc ≤ 3) (hd : hq_dist cl cr nc) : f_Crossings_add_o1 cl cr nc cd x y ≤ 3 ∧ hq_dist (f_Crossings_add_o2 cl cr nc cd x y) (f_Crossings_add_o3 cl cr nc cd x y) (f_Crossings_add_o1 cl cr nc cd x y) := by
  by_cases h : cd = true ∨ 3 ≤ nc ∨ ¬ f_M_letter x = true ∨ ¬ f_M_letter y = true ∨ hq_hasP cl cr x y 0 nc = true
  · obtain ⟨_, e1, e2, e3⟩ := hq_cx_no h
    rw [e1, e2, e3]
    exact ⟨hnc, hd⟩
  · have h1 : ¬ cd = true := fun q => h (Or.inl q)
    have h2 : ¬ 3 ≤ nc := fun q => h (Or.inr (Or.inl q))
    have h3 : f_M_letter x = true := Classical.byContradiction (fun q => h (Or.inr (Or.inr (Or.inl q))))
    have h4 : f_M_letter y = true := Classical.byContradiction (fun q => h (Or.inr (Or.inr (Or.inr (Or.inl q)))))
    have h5 : ¬ hq_hasP cl cr x y 0 nc = true := fun q => h (Or.inr (Or.inr (Or.inr (Or.inr q))))
    obtain ⟨_, e1, e2, e3⟩ := hq_cx_yes h1 h2 h3 h4 h5
    rw [e1, e2, e3]
    refine ⟨by omega, fun i j hij hj => ?_⟩
    by_cases e : j = nc
    · rw [e, pk_us, pk_us, pk_un (by omega), pk_un (by omega)]
      exact hq_hasP_all nc 0 h5 i (by omega) (by omega)
    · rw [pk_un (show ¬ j = nc from e), pk_un (show ¬ j = nc from e), pk_un (show ¬ i = nc by omega), pk_un (show ¬ i = nc by omega)]
      exact hd i j hij (by omega)
/-- what a good line's head says -/
theorem hq_par_hd {t : Nat → Int32} {len : Nat} {lab : Bool} {lb im : Int32} {L : List (Int32 × Int32 × Int32)} (e : hq_par t len = some (lab, lb, im, L)) : (-99999 ≤ lb.toInt ∧ lb.toInt ≤ 99999) ∧ ∃ m, 1 ≤ m ∧ m ≤ 5 ∧ im = nI m := by
  unfold hq_par at e
  generalize hq_fnd t 124 0 (len - 0) = b at e
  by_cases h1 : f_Line_readHead t b = true
  · rw [if_pos h1] at e
    by_cases h2 : len ≤ b
    · rw [if_pos h2] at e; cases e
    · rw [if_neg h2] at e
      cases hn : hq_nss t len 4 b [] with
      | none => rw [hn] at e; cases e
      | some L2 =>
        rw [hn] at e
        have e : some (f_Line_readHead_o1 t b, f_Line_readHead_o2 t b, f_Line_readHead_o3 t b, L2) = some (lab, lb, im, L) := e
        have e4 := Option.some.inj e
        have q2 : f_Line_readHead_o2 t b = lb := congrArg (fun z => z.2.1) e4
        have q3 : f_Line_readHead_o3 t b = im := congrArg (fun z => z.2.2.1) e4
        unfold f_Line_readHead at h1
        unfold f_Line_readHead_o2 at q2
        unfold f_Line_readHead_o3 at q3
        by_cases c1 : b ≤ hq_skp t 32 0 (b - 0)
        · rw [if_pos c1] at q2 q3
          rw [← q2, ← q3]
          exact ⟨by decide, 1, by omega, by omega, rfl⟩
        · rw [if_neg c1] at q2 q3 h1
          generalize hq_skp t 32 0 (b - 0) = A at *
          generalize hq_fnd t 32 A (b - A) = B at *
          by_cases c2 : hq_numC t A B = -2147483648
          · rw [if_pos c2] at h1; cases h1
          · rw [if_neg c2] at h1 q3
            refine ⟨by rw [← q2]; exact hq_numC_in c2, ?_⟩
            by_cases c3 : hq_skp t 32 B (b - B) = b
            · rw [if_pos c3] at q3
              exact ⟨1, by omega, by omega, q3.symm⟩
            · rw [if_neg c3] at q3 h1
              generalize hq_skp t 32 B (b - B) = C at *
              by_cases c4 : f_Line_readImportance t C b = true
              · unfold f_Line_readImportance at c4
                by_cases c5 : t C - 48 < 1
                · rw [if_pos c5] at c4; cases c4
                · by_cases c6 : 5 < t C - 48
                  · rw [if_neg c5, if_pos c6] at c4; cases c4
                  · rw [q3] at c5 c6
                    have a5 : ¬ im.toInt < (1 : Int32).toInt := fun h9 => c5 (Int32.lt_iff_toInt_lt.mpr h9)
                    have a6 : ¬ (5 : Int32).toInt < im.toInt := fun h9 => c6 (Int32.lt_iff_toInt_lt.mpr h9)
                    have z1 : (1 : Int32).toInt = 1 := by decide
                    have z5 : (5 : Int32).toInt = 5 := by decide
                    refine ⟨im.toInt.toNat, by omega, by omega, ?_⟩
                    apply Int32.toInt_inj.mp
                    rw [nI_toInt (by omega)]
                    omega
              · rw [if_neg c4] at h1; cases h1
  · rw [if_neg h1] at e; cases e
